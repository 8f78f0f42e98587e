
def TkP (σ u : f_Mem) (n : Nat) (a1 a2 a3 a4 a5 : Int) : Prop := u 1 (5 * n) = iI a1 ∧ u 1 (5 * n + 1) = iI a2 ∧ u 1 (5 * n + 2) = iI a3 ∧ u 1 (5 * n + 3) = iI a4 ∧ u 1 (5 * n + 4) = iI a5 ∧ (∀ i, i < 5 * n → u 1 i = σ 1 i) ∧ u 0 1 = iI ((n + 1 : Nat) : Int) ∧ FrM [1] [1] σ u

theorem C8_tellKind {E : f_E} {σ : f_Mem} {n : Nat} {a1 a2 a3 a4 a5 : Int} (h1 : σ 0 1 = iI ((n : Nat) : Int)) (hn : n < 6) : FV E sM mX8_tellKind 0 [.ref (f_ad E 0), .int (iI a1), .int (iI a2), .int (iI a3), .int (iI a4), .int (iI a5)] σ (fun u => TkP σ u n a1 a2 a3 a4 a5) := by
  refine FV.intro rfl (Nat.le_of_ble_eq_true rfl) (L0 := [some (.ref (f_ad E 0)), some (.int (iI a1)), some (.int (iI a2)), some (.int (iI a3)), some (.int (iI a4)), some (.int (iI a5))]) rfl (fun G hR => ?_)
  refine g_aload_0 hR dX8_tellKind_0 (g_getR hR dX8_tellKind_1 flX8_7 (by decide) rfl rfl (g_iconst hR dX8_tellKind_4 (g_aload_0 hR dX8_tellKind_5 (g_getI hR _ dX8_tellKind_6 flX8_75 (by decide) rfl rfl h1 (g_imul hR dX8_tellKind_9 (g_iload_1 hR dX8_tellKind_10 (g_astU hR (5 * n) dX8_tellKind_11 (by decide) rfl (by decide) (by omega) (by omega) (fun zu1 hzu1 => ?_))))))))
  have k1 : zu1 0 1 = iI ((n : Nat) : Int) := (congrFun (hzu1.2.2 0 (by omega)) 1).trans h1
  refine g_aload_0 hR dX8_tellKind_12 (g_getR hR dX8_tellKind_13 flX8_7 (by decide) rfl rfl (g_iconst hR dX8_tellKind_16 (g_aload_0 hR dX8_tellKind_17 (g_getI hR _ dX8_tellKind_18 flX8_75 (by decide) rfl rfl k1 (g_imul hR dX8_tellKind_21 (g_iconst hR dX8_tellKind_22 (g_iadd hR dX8_tellKind_23 (g_iload_2 hR dX8_tellKind_24 (g_astU hR (5 * n + 1) dX8_tellKind_25 (by decide) rfl (by decide) (by omega) (by omega) (fun zu2 hzu2 => ?_))))))))))
  have k2 : zu2 0 1 = iI ((n : Nat) : Int) := (congrFun (hzu2.2.2 0 (by omega)) 1).trans k1
  refine g_aload_0 hR dX8_tellKind_26 (g_getR hR dX8_tellKind_27 flX8_7 (by decide) rfl rfl (g_iconst hR dX8_tellKind_30 (g_aload_0 hR dX8_tellKind_31 (g_getI hR _ dX8_tellKind_32 flX8_75 (by decide) rfl rfl k2 (g_imul hR dX8_tellKind_35 (g_iconst hR dX8_tellKind_36 (g_iadd hR dX8_tellKind_37 (g_iload_3 hR dX8_tellKind_38 (g_astU hR (5 * n + 2) dX8_tellKind_39 (by decide) rfl (by decide) (by omega) (by omega) (fun zu3 hzu3 => ?_))))))))))
  have k3 : zu3 0 1 = iI ((n : Nat) : Int) := (congrFun (hzu3.2.2 0 (by omega)) 1).trans k2
  refine g_aload_0 hR dX8_tellKind_40 (g_getR hR dX8_tellKind_41 flX8_7 (by decide) rfl rfl (g_iconst hR dX8_tellKind_44 (g_aload_0 hR dX8_tellKind_45 (g_getI hR _ dX8_tellKind_46 flX8_75 (by decide) rfl rfl k3 (g_imul hR dX8_tellKind_49 (g_iconst hR dX8_tellKind_50 (g_iadd hR dX8_tellKind_51 (g_iload_4 hR dX8_tellKind_52 (g_astU hR (5 * n + 3) dX8_tellKind_54 (by decide) rfl (by decide) (by omega) (by omega) (fun zu4 hzu4 => ?_))))))))))
  have k4 : zu4 0 1 = iI ((n : Nat) : Int) := (congrFun (hzu4.2.2 0 (by omega)) 1).trans k3
  refine g_aload_0 hR dX8_tellKind_55 (g_getR hR dX8_tellKind_56 flX8_7 (by decide) rfl rfl (g_iconst hR dX8_tellKind_59 (g_aload_0 hR dX8_tellKind_60 (g_getI hR _ dX8_tellKind_61 flX8_75 (by decide) rfl rfl k4 (g_imul hR dX8_tellKind_64 (g_iconst hR dX8_tellKind_65 (g_iadd hR dX8_tellKind_66 (g_iload_5 hR dX8_tellKind_67 (g_astU hR (5 * n + 4) dX8_tellKind_69 (by decide) rfl (by decide) (by omega) (by omega) (fun zu5 hzu5 => ?_))))))))))
  have k5 : zu5 0 1 = iI ((n : Nat) : Int) := (congrFun (hzu5.2.2 0 (by omega)) 1).trans k4
  refine g_aload_0 hR dX8_tellKind_70 (g_dup hR dX8_tellKind_71 rfl (g_getI hR _ dX8_tellKind_72 flX8_75 (by decide) rfl rfl k5 (g_iconst hR dX8_tellKind_75 (g_iadd hR dX8_tellKind_76 (g_putU hR dX8_tellKind_77 fpX8_75 (by decide) rfl rfl (fun zu6 hzu6 => ?_))))))
  exact g_vret hR dX8_tellKind_80 rfl ⟨(by rw [hzu6.2.2 1 (by omega), hzu5.2.1 _ (by omega), hzu4.2.1 _ (by omega), hzu3.2.1 _ (by omega), hzu2.2.1 _ (by omega), hzu1.1]), (by rw [hzu6.2.2 1 (by omega), hzu5.2.1 _ (by omega), hzu4.2.1 _ (by omega), hzu3.2.1 _ (by omega), hzu2.1]), (by rw [hzu6.2.2 1 (by omega), hzu5.2.1 _ (by omega), hzu4.2.1 _ (by omega), hzu3.1]), (by rw [hzu6.2.2 1 (by omega), hzu5.2.1 _ (by omega), hzu4.1]), (by rw [hzu6.2.2 1 (by omega), hzu5.1]), (fun i hi => by rw [hzu6.2.2 1 (by omega), hzu5.2.1 _ (by omega), hzu4.2.1 _ (by omega), hzu3.2.1 _ (by omega), hzu2.2.1 _ (by omega), hzu1.2.1 _ (by omega)]), hzu6.1.trans (congrArg iI (by omega)), (FrM.ar hzu1 (by decide) (by decide)).tr ((FrM.ar hzu2 (by decide) (by decide)).tr ((FrM.ar hzu3 (by decide) (by decide)).tr ((FrM.ar hzu4 (by decide) (by decide)).tr ((FrM.ar hzu5 (by decide) (by decide)).tr (FrM.fd hzu6 (by decide))))))⟩

def L1e : Les := ([1, 3, 6, 24], [0, 1, 2, 3], [62, 13, 3, 63], [3, 5, 8, 4], [2, 1, 1, 3], [0, 1, 2, 3, 1], 0, 0)
def tl1 : List Nat := [1, 0, 62, 3, 2, 3, 1, 13, 5, 1, 6, 2, 3, 8, 1, 24, 3, 63, 4, 3]
theorem L1_eq : L1 = L1e := by unfold L1 L1e; decide +kernel
theorem A0_eq : A0 = ([], L1e, M00, [], [], []) := by unfold A0; rw [L1_eq]
theorem stL_00 {i v : Nat} (h : stL M00 i = some v) : v = 0 := by
  have key : ∀ i, i < 50 → stL M00 i = none ∨ stL M00 i = some 0 := by decide
  by_cases q : i < 50
  · rcases key i q with e | e
    · rw [e] at h; cases h
    · rw [e] at h; exact (Option.some.inj h).symm
  · unfold stL at h
    rw [if_neg (by omega), if_neg (by omega), if_neg (by omega), if_neg (by omega), if_neg (by omega), if_neg (by omega)] at h
    cases h
theorem iz0 : iI ((0 : Nat) : Int) = 0 := by decide
theorem T_model {E : f_E} {G : f_G} (hR : Rul cX8_init RX8 none 1 E sM eV (fun _ u => InvM u A0) G) : G 158 [some (.ref (f_ad E 0)), none] [] k_z := by
  refine g_aload_0 hR dX8_init_158 (g_iconst hR dX8_init_159 (g_iconst hR dX8_init_160 (g_bipush hR dX8_init_161 (by decide) (g_iconst hR dX8_init_163 (g_iconst hR dX8_init_164 (g_callV5V hR dX8_init_165 mlX8_67 (by decide) rfl rfl (C8_tellKind (n := 0) (show k_z 0 1 = iI ((0 : Nat) : Int) from iz0.symm) (by decide)) (by decide) (Nat.le_of_ble_eq_true rfl) (fun zu1 hzu1 => (g_aload_0 hR dX8_init_168 (g_iconst hR dX8_init_169 (g_iconst hR dX8_init_170 (g_bipush hR dX8_init_171 (by decide) (g_iconst hR dX8_init_173 (g_iconst hR dX8_init_174 (g_callV5V hR dX8_init_175 mlX8_67 (by decide) rfl rfl (C8_tellKind (n := 1) hzu1.2.2.2.2.2.2.1 (by decide)) (by decide) (Nat.le_of_ble_eq_true rfl) (fun zu2 hzu2 => (g_aload_0 hR dX8_init_178 (g_bipush hR dX8_init_179 (by decide) (g_iconst hR dX8_init_181 (g_iconst hR dX8_init_182 (g_bipush hR dX8_init_183 (by decide) (g_iconst hR dX8_init_185 (g_callV5V hR dX8_init_186 mlX8_67 (by decide) rfl rfl (C8_tellKind (n := 2) hzu2.2.2.2.2.2.2.1 (by decide)) (by decide) (Nat.le_of_ble_eq_true rfl) (fun zu3 hzu3 => (g_aload_0 hR dX8_init_189 (g_bipush hR dX8_init_190 (by decide) (g_iconst hR dX8_init_192 (g_bipush hR dX8_init_193 (by decide) (g_iconst hR dX8_init_195 (g_iconst hR dX8_init_196 (g_callV5V hR dX8_init_197 mlX8_67 (by decide) rfl rfl (C8_tellKind (n := 3) hzu3.2.2.2.2.2.2.1 (by decide)) (by decide) (Nat.le_of_ble_eq_true rfl) (fun zu4 hzu4 => (g_iconst hR dX8_init_200 (g_istore_1 hR dX8_init_201 rfl (g_iload_1 hR dX8_init_202 (g_iconst hR dX8_init_203 (g_icmp_ge hR 220 dX8_init_204 (by decide) (by omega) (by omega) (fun zc204 => ?_) (fun zc204 => ?_)))))))))))))))))))))))))))))))))))))
  · skip
    exact absurd zc204 (by omega)
  · skip
    refine g_aload_0 hR dX8_init_207 (g_getR hR dX8_init_208 flX8_13 (by decide) rfl rfl (g_iload_1 hR dX8_init_211 (g_iload_1 hR dX8_init_212 (g_astU hR (0) dX8_init_213 (by decide) rfl (by decide) (by omega) (by omega) (fun zu5 hzu5 => (g_iinc_1 hR dX8_init_214 rfl (g_goto hR 202 dX8_init_217 (by decide) (g_iload_1 hR dX8_init_202 (g_iconst hR dX8_init_203 (g_icmp_ge hR 220 dX8_init_204 (by decide) (by omega) (by omega) (fun zc204 => ?_) (fun zc204 => ?_)))))))))))
    · skip
      exact absurd zc204 (by omega)
    · skip
      refine g_aload_0 hR dX8_init_207 (g_getR hR dX8_init_208 flX8_13 (by decide) rfl rfl (g_iload_1 hR dX8_init_211 (g_iload_1 hR dX8_init_212 (g_astU hR (1) dX8_init_213 (by decide) rfl (by decide) (by omega) (by omega) (fun zu6 hzu6 => (g_iinc_1 hR dX8_init_214 rfl (g_goto hR 202 dX8_init_217 (by decide) (g_iload_1 hR dX8_init_202 (g_iconst hR dX8_init_203 (g_icmp_ge hR 220 dX8_init_204 (by decide) (by omega) (by omega) (fun zc204 => ?_) (fun zc204 => ?_)))))))))))
      · skip
        exact absurd zc204 (by omega)
      · skip
        refine g_aload_0 hR dX8_init_207 (g_getR hR dX8_init_208 flX8_13 (by decide) rfl rfl (g_iload_1 hR dX8_init_211 (g_iload_1 hR dX8_init_212 (g_astU hR (2) dX8_init_213 (by decide) rfl (by decide) (by omega) (by omega) (fun zu7 hzu7 => (g_iinc_1 hR dX8_init_214 rfl (g_goto hR 202 dX8_init_217 (by decide) (g_iload_1 hR dX8_init_202 (g_iconst hR dX8_init_203 (g_icmp_ge hR 220 dX8_init_204 (by decide) (by omega) (by omega) (fun zc204 => ?_) (fun zc204 => ?_)))))))))))
        · skip
          exact absurd zc204 (by omega)
        · skip
          refine g_aload_0 hR dX8_init_207 (g_getR hR dX8_init_208 flX8_13 (by decide) rfl rfl (g_iload_1 hR dX8_init_211 (g_iload_1 hR dX8_init_212 (g_astU hR (3) dX8_init_213 (by decide) rfl (by decide) (by omega) (by omega) (fun zu8 hzu8 => (g_iinc_1 hR dX8_init_214 rfl (g_goto hR 202 dX8_init_217 (by decide) (g_iload_1 hR dX8_init_202 (g_iconst hR dX8_init_203 (g_icmp_ge hR 220 dX8_init_204 (by decide) (by omega) (by omega) (fun zc204 => ?_) (fun zc204 => ?_)))))))))))
          · skip
            refine g_aload_0 hR dX8_init_220 (g_getR hR dX8_init_221 flX8_13 (by decide) rfl rfl (g_iconst hR dX8_init_224 (g_iconst hR dX8_init_225 (g_astU hR (4) dX8_init_226 (by decide) rfl (by decide) (by omega) (by omega) (fun zu9 hzu9 => (g_aload_0 hR dX8_init_227 (g_iconst hR dX8_init_228 (g_putU hR dX8_init_229 fpX8_71 (by decide) rfl rfl (fun zu10 hzu10 => ?_)))))))))
            have hI : InvM zu10 A0 := by
              have e1 : zu10 1 = zu4 1 := (hzu10.2.2 1 (by omega)).trans ((hzu9.2.2 1 (by omega)).trans ((hzu8.2.2 1 (by omega)).trans ((hzu7.2.2 1 (by omega)).trans ((hzu6.2.2 1 (by omega)).trans (hzu5.2.2 1 (by omega))))))
              have e2 : zu10 2 = zu9 2 := hzu10.2.2 2 (by omega)
              have F : FrM [1, 2] [1, 5] k_z zu10 := ((hzu1.2.2.2.2.2.2.2).mono (by decide) (by decide)).tr (((hzu2.2.2.2.2.2.2.2).mono (by decide) (by decide)).tr (((hzu3.2.2.2.2.2.2.2).mono (by decide) (by decide)).tr (((hzu4.2.2.2.2.2.2.2).mono (by decide) (by decide)).tr ((FrM.ar hzu5 (by decide) (by decide)).tr ((FrM.ar hzu6 (by decide) (by decide)).tr ((FrM.ar hzu7 (by decide) (by decide)).tr ((FrM.ar hzu8 (by decide) (by decide)).tr ((FrM.ar hzu9 (by decide) (by decide)).tr (FrM.fd hzu10 (by decide))))))))))
              have e0 : zu10 0 1 = zu4 0 1 := (hzu10.2.1 1 (by omega)).trans ((congrFun (hzu9.2.2 0 (by omega)) 1).trans ((congrFun (hzu8.2.2 0 (by omega)) 1).trans ((congrFun (hzu7.2.2 0 (by omega)) 1).trans ((congrFun (hzu6.2.2 0 (by omega)) 1).trans (congrFun (hzu5.2.2 0 (by omega)) 1)))))
              have v : ∀ i, i < 20 → zu10 1 i = iI ((tl1.getD i 0 : Nat) : Int) := by
                intro i hi
                match i, hi with
                | 0, _ => exact (congrFun e1 0).trans ((hzu4.2.2.2.2.2.1 0 (by omega)).trans ((hzu3.2.2.2.2.2.1 0 (by omega)).trans ((hzu2.2.2.2.2.2.1 0 (by omega)).trans (show _ = iI ((1 : Nat) : Int) from hzu1.1))))
                | 1, _ => exact (congrFun e1 1).trans ((hzu4.2.2.2.2.2.1 1 (by omega)).trans ((hzu3.2.2.2.2.2.1 1 (by omega)).trans ((hzu2.2.2.2.2.2.1 1 (by omega)).trans (show _ = iI ((0 : Nat) : Int) from hzu1.2.1))))
                | 2, _ => exact (congrFun e1 2).trans ((hzu4.2.2.2.2.2.1 2 (by omega)).trans ((hzu3.2.2.2.2.2.1 2 (by omega)).trans ((hzu2.2.2.2.2.2.1 2 (by omega)).trans (show _ = iI ((62 : Nat) : Int) from hzu1.2.2.1))))
                | 3, _ => exact (congrFun e1 3).trans ((hzu4.2.2.2.2.2.1 3 (by omega)).trans ((hzu3.2.2.2.2.2.1 3 (by omega)).trans ((hzu2.2.2.2.2.2.1 3 (by omega)).trans (show _ = iI ((3 : Nat) : Int) from hzu1.2.2.2.1))))
                | 4, _ => exact (congrFun e1 4).trans ((hzu4.2.2.2.2.2.1 4 (by omega)).trans ((hzu3.2.2.2.2.2.1 4 (by omega)).trans ((hzu2.2.2.2.2.2.1 4 (by omega)).trans (show _ = iI ((2 : Nat) : Int) from hzu1.2.2.2.2.1))))
                | 5, _ => exact (congrFun e1 5).trans ((hzu4.2.2.2.2.2.1 5 (by omega)).trans ((hzu3.2.2.2.2.2.1 5 (by omega)).trans (show _ = iI ((3 : Nat) : Int) from hzu2.1)))
                | 6, _ => exact (congrFun e1 6).trans ((hzu4.2.2.2.2.2.1 6 (by omega)).trans ((hzu3.2.2.2.2.2.1 6 (by omega)).trans (show _ = iI ((1 : Nat) : Int) from hzu2.2.1)))
                | 7, _ => exact (congrFun e1 7).trans ((hzu4.2.2.2.2.2.1 7 (by omega)).trans ((hzu3.2.2.2.2.2.1 7 (by omega)).trans (show _ = iI ((13 : Nat) : Int) from hzu2.2.2.1)))
                | 8, _ => exact (congrFun e1 8).trans ((hzu4.2.2.2.2.2.1 8 (by omega)).trans ((hzu3.2.2.2.2.2.1 8 (by omega)).trans (show _ = iI ((5 : Nat) : Int) from hzu2.2.2.2.1)))
                | 9, _ => exact (congrFun e1 9).trans ((hzu4.2.2.2.2.2.1 9 (by omega)).trans ((hzu3.2.2.2.2.2.1 9 (by omega)).trans (show _ = iI ((1 : Nat) : Int) from hzu2.2.2.2.2.1)))
                | 10, _ => exact (congrFun e1 10).trans ((hzu4.2.2.2.2.2.1 10 (by omega)).trans (show _ = iI ((6 : Nat) : Int) from hzu3.1))
                | 11, _ => exact (congrFun e1 11).trans ((hzu4.2.2.2.2.2.1 11 (by omega)).trans (show _ = iI ((2 : Nat) : Int) from hzu3.2.1))
                | 12, _ => exact (congrFun e1 12).trans ((hzu4.2.2.2.2.2.1 12 (by omega)).trans (show _ = iI ((3 : Nat) : Int) from hzu3.2.2.1))
                | 13, _ => exact (congrFun e1 13).trans ((hzu4.2.2.2.2.2.1 13 (by omega)).trans (show _ = iI ((8 : Nat) : Int) from hzu3.2.2.2.1))
                | 14, _ => exact (congrFun e1 14).trans ((hzu4.2.2.2.2.2.1 14 (by omega)).trans (show _ = iI ((1 : Nat) : Int) from hzu3.2.2.2.2.1))
                | 15, _ => exact (congrFun e1 15).trans (show _ = iI ((24 : Nat) : Int) from hzu4.1)
                | 16, _ => exact (congrFun e1 16).trans (show _ = iI ((3 : Nat) : Int) from hzu4.2.1)
                | 17, _ => exact (congrFun e1 17).trans (show _ = iI ((63 : Nat) : Int) from hzu4.2.2.1)
                | 18, _ => exact (congrFun e1 18).trans (show _ = iI ((4 : Nat) : Int) from hzu4.2.2.2.1)
                | 19, _ => exact (congrFun e1 19).trans (show _ = iI ((3 : Nat) : Int) from hzu4.2.2.2.2.1)
              have vL : LsM zu10 1 L1e := by
                intro k hk
                match k, hk with
                | 0, _ => exact ⟨v 0 (by decide), v 1 (by decide), v 2 (by decide), v 3 (by decide), v 4 (by decide)⟩
                | 1, _ => exact ⟨v 5 (by decide), v 6 (by decide), v 7 (by decide), v 8 (by decide), v 9 (by decide)⟩
                | 2, _ => exact ⟨v 10 (by decide), v 11 (by decide), v 12 (by decide), v 13 (by decide), v 14 (by decide)⟩
                | 3, _ => exact ⟨v 15 (by decide), v 16 (by decide), v 17 (by decide), v 18 (by decide), v 19 (by decide)⟩
                | k + 4, hk => exact absurd (show k + 4 < 4 from hk) (by omega)
              have vR : RwM zu10 2 [0, 1, 2, 3, 1] := by
                intro i hi
                match i, hi with
                | 0, _ => exact (congrFun e2 0).trans ((hzu9.2.1 0 (by omega)).trans ((hzu8.2.1 0 (by omega)).trans ((hzu7.2.1 0 (by omega)).trans ((hzu6.2.1 0 (by omega)).trans (hzu5.1.trans (congrArg iI (show _ = ((0 : Nat) : Int) by omega)))))))
                | 1, _ => exact (congrFun e2 1).trans ((hzu9.2.1 1 (by omega)).trans ((hzu8.2.1 1 (by omega)).trans ((hzu7.2.1 1 (by omega)).trans (hzu6.1.trans (congrArg iI (show _ = ((1 : Nat) : Int) by omega))))))
                | 2, _ => exact (congrFun e2 2).trans ((hzu9.2.1 2 (by omega)).trans ((hzu8.2.1 2 (by omega)).trans (hzu7.1.trans (congrArg iI (show _ = ((2 : Nat) : Int) by omega)))))
                | 3, _ => exact (congrFun e2 3).trans ((hzu9.2.1 3 (by omega)).trans (hzu8.1.trans (congrArg iI (show _ = ((3 : Nat) : Int) by omega))))
                | 4, _ => exact (congrFun e2 4).trans hzu9.1
                | k + 5, hk => exact absurd (show k + 5 < 5 from hk) (by omega)
              have f0 : ∀ k, k ∉ [1, 5] → zu10 0 k = iI ((0 : Nat) : Int) := fun k hk => (F.2 k hk).trans iz0.symm
              rw [A0_eq]
              exact ⟨⟨fun i h => absurd h (Nat.not_lt_zero _), f0 8 (by decide)⟩, ⟨vL, e0.trans hzu4.2.2.2.2.2.2.1, f0 2 (by decide), f0 3 (by decide)⟩, ⟨vR, hzu10.1⟩, fun i v h => by rw [stL_00 h, F.1 3 (by decide) (by decide)]; exact iz0.symm, ⟨fun i M h => absurd h (by simp [Ap]), f0 19 (by decide)⟩, ⟨fun i M h => absurd h (by simp [Ak]), f0 32 (by decide)⟩, ⟨fun i h => absurd h (Nat.not_lt_zero _), f0 28 (by decide)⟩⟩
            exact g_vret hR dX8_init_232 rfl hI
          · skip
            exact absurd zc204 (by omega)
theorem K_mod {E : f_E} : CM E mX8_init 1 19 1841 8 [.null, .int 0, .int 0, .int 0, .null, .int 0, .null, .null, .int 0, .int 0, .null, .null, .int 0, .int 0, .int 0, .null, .int 0, .int 0, .null, .int 0, .null, .null, .null, .null, .null, .null, .null, .null, .int 0, .null, .null, .null, .int 0] [] (k_Po E sM (fun σ => InvM σ A0)) := by
  refine CM.introM rfl rfl rfl (fun _ => Nat.le_of_ble_eq_true rfl) (L0 := fun h0 => [some (.ref h0), none]) (fun _ => rfl) (fun h0 G hR hT => ?_)
  refine j_aload_n hR _ _ _ _ _ _ dX8_init_0 rfl (j_oinit hR _ _ _ _ _ _ dX8_init_1 oiX8_1 (by decide) (Nat.le_of_ble_eq_true rfl) (j_aload_n hR _ _ _ _ _ _ dX8_init_4 rfl (j_bipush hR _ _ _ _ _ (iI 30) dX8_init_5 (by decide) (j_newa hR _ _ _ _ _ _ _ _ 30 dX8_init_7 (by decide) (by decide) (by decide) (by decide) (by decide) (fun q1 => (j_putf hR _ _ _ _ _ _ _ _ _ _ dX8_init_9 ffX8_7 (Or.inr ⟨_, rfl⟩) (Nat.le_of_ble_eq_true rfl) (j_aload_n hR _ _ _ _ _ _ dX8_init_12 rfl (j_bipush hR _ _ _ _ _ (iI 10) dX8_init_13 (by decide) (j_newa hR _ _ _ _ _ _ _ _ 10 dX8_init_15 (by decide) (by decide) (by decide) (by decide) (by decide) (fun q2 => (j_putf hR _ _ _ _ _ _ _ _ _ _ dX8_init_17 ffX8_13 (Or.inr ⟨_, rfl⟩) (Nat.le_of_ble_eq_true rfl) (j_aload_n hR _ _ _ _ _ _ dX8_init_20 rfl (j_bipush hR _ _ _ _ _ (iI 50) dX8_init_21 (by decide) (j_newa hR _ _ _ _ _ _ _ _ 50 dX8_init_23 (by decide) (by decide) (by decide) (by decide) (by decide) (fun q3 => (j_putf hR _ _ _ _ _ _ _ _ _ _ dX8_init_25 ffX8_16 (Or.inr ⟨_, rfl⟩) (Nat.le_of_ble_eq_true rfl) (j_aload_n hR _ _ _ _ _ _ dX8_init_28 rfl (j_sipush hR _ _ _ _ _ (iI 200) dX8_init_29 (by decide) (j_newa hR _ _ _ _ _ _ _ _ 200 dX8_init_32 (by decide) (by decide) (by decide) (by decide) (by decide) (fun q4 => (j_putf hR _ _ _ _ _ _ _ _ _ _ dX8_init_34 ffX8_19 (Or.inr ⟨_, rfl⟩) (Nat.le_of_ble_eq_true rfl) (j_aload_n hR _ _ _ _ _ _ dX8_init_37 rfl (j_iconst hR _ _ _ _ _ (iI 5) dX8_init_38 rfl (j_newa hR _ _ _ _ _ _ _ _ 5 dX8_init_39 (by decide) (by decide) (by decide) (by decide) (by decide) (fun q5 => (j_putf hR _ _ _ _ _ _ _ _ _ _ dX8_init_41 ffX8_22 (Or.inr ⟨_, rfl⟩) (Nat.le_of_ble_eq_true rfl) (j_aload_n hR _ _ _ _ _ _ dX8_init_44 rfl (j_bipush hR _ _ _ _ _ (iI 30) dX8_init_45 (by decide) (j_newa hR _ _ _ _ _ _ _ _ 30 dX8_init_47 (by decide) (by decide) (by decide) (by decide) (by decide) (fun q6 => (j_putf hR _ _ _ _ _ _ _ _ _ _ dX8_init_49 ffX8_25 (Or.inr ⟨_, rfl⟩) (Nat.le_of_ble_eq_true rfl) (j_aload_n hR _ _ _ _ _ _ dX8_init_52 rfl (j_bipush hR _ _ _ _ _ (iI 10) dX8_init_53 (by decide) (j_newa hR _ _ _ _ _ _ _ _ 10 dX8_init_55 (by decide) (by decide) (by decide) (by decide) (by decide) (fun q7 => (j_putf hR _ _ _ _ _ _ _ _ _ _ dX8_init_57 ffX8_28 (Or.inr ⟨_, rfl⟩) (Nat.le_of_ble_eq_true rfl) (j_aload_n hR _ _ _ _ _ _ dX8_init_60 rfl (j_sipush hR _ _ _ _ _ (iI 400) dX8_init_61 (by decide) (j_newa hR _ _ _ _ _ _ _ _ 400 dX8_init_64 (by decide) (by decide) (by decide) (by decide) (by decide) (fun q8 => (j_putf hR _ _ _ _ _ _ _ _ _ _ dX8_init_66 ffX8_31 (Or.inr ⟨_, rfl⟩) (Nat.le_of_ble_eq_true rfl) (j_aload_n hR _ _ _ _ _ _ dX8_init_69 rfl (j_bipush hR _ _ _ _ _ (iI 50) dX8_init_70 (by decide) (j_newa hR _ _ _ _ _ _ _ _ 50 dX8_init_72 (by decide) (by decide) (by decide) (by decide) (by decide) (fun q9 => (j_putf hR _ _ _ _ _ _ _ _ _ _ dX8_init_74 ffX8_34 (Or.inr ⟨_, rfl⟩) (Nat.le_of_ble_eq_true rfl) (j_aload_n hR _ _ _ _ _ _ dX8_init_77 rfl (j_bipush hR _ _ _ _ _ (iI 10) dX8_init_78 (by decide) (j_newa hR _ _ _ _ _ _ _ _ 10 dX8_init_80 (by decide) (by decide) (by decide) (by decide) (by decide) (fun q10 => (j_putf hR _ _ _ _ _ _ _ _ _ _ dX8_init_82 ffX8_37 (Or.inr ⟨_, rfl⟩) (Nat.le_of_ble_eq_true rfl) (j_aload_n hR _ _ _ _ _ _ dX8_init_85 rfl (j_bipush hR _ _ _ _ _ (iI 10) dX8_init_86 (by decide) (j_newa hR _ _ _ _ _ _ _ _ 10 dX8_init_88 (by decide) (by decide) (by decide) (by decide) (by decide) (fun q11 => (j_putf hR _ _ _ _ _ _ _ _ _ _ dX8_init_90 ffX8_40 (Or.inr ⟨_, rfl⟩) (Nat.le_of_ble_eq_true rfl) (j_aload_n hR _ _ _ _ _ _ dX8_init_93 rfl (j_sipush hR _ _ _ _ _ (iI 800) dX8_init_94 (by decide) (j_newa hR _ _ _ _ _ _ _ _ 800 dX8_init_97 (by decide) (by decide) (by decide) (by decide) (by decide) (fun q12 => (j_putf hR _ _ _ _ _ _ _ _ _ _ dX8_init_99 ffX8_43 (Or.inr ⟨_, rfl⟩) (Nat.le_of_ble_eq_true rfl) (j_aload_n hR _ _ _ _ _ _ dX8_init_102 rfl (j_bipush hR _ _ _ _ _ (iI 10) dX8_init_103 (by decide) (j_newa hR _ _ _ _ _ _ _ _ 10 dX8_init_105 (by decide) (by decide) (by decide) (by decide) (by decide) (fun q13 => (j_putf hR _ _ _ _ _ _ _ _ _ _ dX8_init_107 ffX8_46 (Or.inr ⟨_, rfl⟩) (Nat.le_of_ble_eq_true rfl) (j_aload_n hR _ _ _ _ _ _ dX8_init_110 rfl (j_bipush hR _ _ _ _ _ (iI 10) dX8_init_111 (by decide) (j_newa hR _ _ _ _ _ _ _ _ 10 dX8_init_113 (by decide) (by decide) (by decide) (by decide) (by decide) (fun q14 => (j_putf hR _ _ _ _ _ _ _ _ _ _ dX8_init_115 ffX8_49 (Or.inr ⟨_, rfl⟩) (Nat.le_of_ble_eq_true rfl) (j_aload_n hR _ _ _ _ _ _ dX8_init_118 rfl (j_bipush hR _ _ _ _ _ (iI 8) dX8_init_119 (by decide) (j_newa hR _ _ _ _ _ _ _ _ 8 dX8_init_121 (by decide) (by decide) (by decide) (by decide) (by decide) (fun q15 => (j_putf hR _ _ _ _ _ _ _ _ _ _ dX8_init_123 ffX8_52 (Or.inr ⟨_, rfl⟩) (Nat.le_of_ble_eq_true rfl) (j_aload_n hR _ _ _ _ _ _ dX8_init_126 rfl (j_bipush hR _ _ _ _ _ (iI 8) dX8_init_127 (by decide) (j_newa hR _ _ _ _ _ _ _ _ 8 dX8_init_129 (by decide) (by decide) (by decide) (by decide) (by decide) (fun q16 => (j_putf hR _ _ _ _ _ _ _ _ _ _ dX8_init_131 ffX8_55 (Or.inr ⟨_, rfl⟩) (Nat.le_of_ble_eq_true rfl) (j_aload_n hR _ _ _ _ _ _ dX8_init_134 rfl (j_bipush hR _ _ _ _ _ (iI 50) dX8_init_135 (by decide) (j_newa hR _ _ _ _ _ _ _ _ 50 dX8_init_137 (by decide) (by decide) (by decide) (by decide) (by decide) (fun q17 => (j_putf hR _ _ _ _ _ _ _ _ _ _ dX8_init_139 ffX8_58 (Or.inr ⟨_, rfl⟩) (Nat.le_of_ble_eq_true rfl) (j_aload_n hR _ _ _ _ _ _ dX8_init_142 rfl (j_bipush hR _ _ _ _ _ (iI 50) dX8_init_143 (by decide) (j_newa hR _ _ _ _ _ _ _ _ 50 dX8_init_145 (by decide) (by decide) (by decide) (by decide) (by decide) (fun q18 => (j_putf hR _ _ _ _ _ _ _ _ _ _ dX8_init_147 ffX8_61 (Or.inr ⟨_, rfl⟩) (Nat.le_of_ble_eq_true rfl) (j_aload_n hR _ _ _ _ _ _ dX8_init_150 rfl (j_bipush hR _ _ _ _ _ (iI 100) dX8_init_151 (by decide) (j_newa hR _ _ _ _ _ _ _ _ 100 dX8_init_153 (by decide) (by decide) (by decide) (by decide) (by decide) (fun q19 => (j_putf hR _ _ _ _ _ _ _ _ _ _ dX8_init_155 ffX8_64 (Or.inr ⟨_, rfl⟩) (Nat.le_of_ble_eq_true rfl) ?_))))))))))))))))))))))))))))))))))))))))))))))))))))))))))))))))))))))))))))))))))))))))))))))))
  refine hT 158 _ _ _ _ _ (A_l [h0, q1, q2, q3, q4, q5, q6, q7, q8, q9, q10, q11, q12, q13, q14, q15, q16, q17, q18, q19]) sM k_z (fun u => InvM u A0) (by omega) (by omega) (fun H A2 hP hD => k_fin (E := k_E E (A_l [h0, q1, q2, q3, q4, q5, q6, q7, q8, q9, q10, q11, q12, q13, q14, q15, q16, q17, q18, q19])) (fun k => k) (fun i j _ _ h => h) ?_ hP hD) (fun G2 hR2 _ => T_model hR2) (fun u hu => ⟨_, u, rfl, rfl, hu⟩)
  intro k hk
  match k, hk with
  | 0, _ => exact ⟨_, rfl, fun H h => h⟩
  | 1, _ => exact ⟨_, rfl, fun H h => h⟩
  | 2, _ => exact ⟨_, rfl, fun H h => h⟩
  | 3, _ => exact ⟨_, rfl, fun H h => h⟩
  | 4, _ => exact ⟨_, rfl, fun H h => h⟩
  | 5, _ => exact ⟨_, rfl, fun H h => h⟩
  | 6, _ => exact ⟨_, rfl, fun H h => h⟩
  | 7, _ => exact ⟨_, rfl, fun H h => h⟩
  | 8, _ => exact ⟨_, rfl, fun H h => h⟩
  | 9, _ => exact ⟨_, rfl, fun H h => h⟩
  | 10, _ => exact ⟨_, rfl, fun H h => h⟩
  | 11, _ => exact ⟨_, rfl, fun H h => h⟩
  | 12, _ => exact ⟨_, rfl, fun H h => h⟩
  | 13, _ => exact ⟨_, rfl, fun H h => h⟩
  | 14, _ => exact ⟨_, rfl, fun H h => h⟩
  | 15, _ => exact ⟨_, rfl, fun H h => h⟩
  | 16, _ => exact ⟨_, rfl, fun H h => h⟩
  | 17, _ => exact ⟨_, rfl, fun H h => h⟩
  | 18, _ => exact ⟨_, rfl, fun H h => h⟩
  | 19, _ => exact ⟨_, rfl, fun H h => h⟩
  | k + 20, hk => exact absurd (show k + 20 < 20 from hk) (by omega)
