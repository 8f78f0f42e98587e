theorem C8_tryTaught {E : f_E} {σ : f_Mem} {A : AS} (h : InvM σ A) (ok : ASOK A) {w : Nat} (hw : w < 6 * AK A) : FZ E sM mX8_tryTaught 6 [.ref (f_ad E 0), .int (iI (w / 6 : Nat)), .int (iI (w % 6 : Nat))] σ (lossW A w : Nat) (fun u => InvM u A) := by
  have hK1 := ok.K1
  have hK6 := ok.K6
  have hkk : AK A = (Lm (AL A)).length := rfl
  have hrl := ok.L.rl
  have hwl := ok.wl
  have hwo := ok.w
  have h6h := ok.M.2.2
  have hf6 := ok.L.f
  have hs4 := ok.L.s
  have hwk : WOK (AL A) (w :: (AM A).1) := fun v hv => by
    rcases List.mem_cons.mp hv with q | q
    · rw [q]; omega
    · exact hwo v q
  refine FZ.intro rfl (Nat.le_of_ble_eq_true rfl) (L0 := [some (.ref (f_ad E 0)), some (.int (iI (w / 6 : Nat))), some (.int (iI (w % 6 : Nat))), none]) rfl (fun G hR => ?_)
  refine g_aload_0 hR dX8_tryTaught_0 (g_callV0V hR dX8_tryTaught_1 mlX8_188 (by decide) rfl rfl (C8_putAside) (by decide) (Nat.le_of_ble_eq_true rfl) (fun zu1 hzu1 => (g_aload_0 hR dX8_tryTaught_4 (g_iload_1 hR dX8_tryTaught_5 (g_iload_2 hR dX8_tryTaught_6 (g_callV2V hR dX8_tryTaught_7 mlX8_176 (by decide) rfl rfl (C8_hear (k := w / 6) (d := w % 6) (h.st.fr (hzu1.2.1 3 (by decide) (by decide)))) (by decide) (Nat.le_of_ble_eq_true rfl) (fun zu2 hzu2 => ?_)))))))
  rw [Nat.div_add_mod] at hzu2
  have hF : FrM [3, 9] [] σ zu2 := (hzu1.2.mono (by decide) (by decide)).tr (hzu2.2.mono (by decide) (by decide))
  refine g_aload_0 hR dX8_tryTaught_10 (g_aload_0 hR dX8_tryTaught_11 (g_getI hR _ dX8_tryTaught_12 flX8_136 (by decide) rfl rfl ((hF.2 2 (by decide)).trans h.hd.2.1) (g_aload_0 hR dX8_tryTaught_15 (g_getI hR _ dX8_tryTaught_16 flX8_139 (by decide) rfl rfl ((hF.2 3 (by decide)).trans h.hd.2.2) (g_callV2Z hR dX8_tryTaught_19 mlX8_191 (by decide) rfl rfl (C8_runRow (L := AL A) (M := (w :: (AM A).1, (AM A).2)) (row := Lrow (AL A)) hzu2.1 (h.ls.fr (hF.1 1 (by decide) (by decide))) ok.L hwk h6h (h.rw.fr (hF.1 2 (by decide) (by decide))) ((hF.2 5 (by decide)).trans h.rn) ok.L.2.2.1.2 hrl hs4 hf6) (by decide) (Nat.le_of_ble_eq_true rfl) (fun zu3 hzu3 => (g_istore_3 hR dX8_tryTaught_22 rfl (g_aload_0 hR dX8_tryTaught_23 (g_callV0V hR dX8_tryTaught_24 mlX8_194 (by decide) rfl rfl (C8_takeBack) (by decide) (Nat.le_of_ble_eq_true rfl) (fun zu4 hzu4 => (g_iload_3 hR dX8_tryTaught_27 ?_)))))))))))
  exact g_iret hR dX8_tryTaught_28 rfl rfl (h.keep ((hF.mono (by decide) (by decide)).tr ((hzu3.2.2.mono (by decide) (by decide)).tr (hzu4.2.mono (by decide) (by decide)))) (h.st.cp (fun i hi => (hzu4.1 i hi).trans ((congrFun (hzu3.2.2.1 9 (by decide) (by decide)) (0 + i)).trans ((congrFun (hzu2.2.1 9 (by decide) (by decide)) (0 + i)).trans (hzu1.1 i hi))))))
theorem M_best {E : f_E} {σ : f_Mem} {A : AS} (h : InvM σ A) (ok : ASOK A) {w : Int} (hw : -2147483648 ≤ w ∧ w < 2147483648) : FZ E sM mX8_best 12 [.ref (f_ad E 0), .int (iI w)] σ (sp_best A w) (fun u => InvM u A) := by
  have hK1 := ok.K1
  have hK6 := ok.K6
  have hkk : AK A = (Lm (AL A)).length := rfl
  have hrl := ok.L.rl
  have hwl := ok.wl
  have hwo := ok.w
  have h6h := ok.M.2.2
  have hf6 := ok.L.f
  have hs4 := ok.L.s
  have hlw : ∀ w, lossW A w ≤ 200 := fun w => Nat.le_trans (runL_le ok.L _ _ _ _) (by omega)
  have hl0 : loss0 A ≤ 200 := Nat.le_trans (runL_le ok.L _ _ _ _) (by omega)
  refine FZ.intro rfl (Nat.le_of_ble_eq_true rfl) (L0 := [some (.ref (f_ad E 0)), some (.int (iI w)), none, none, none, none]) rfl (fun G hR => ?_)
  refine g_iload_1 hR dX8_best_0 (g_i2l hR dX8_best_1 (by omega) (g_lconst hR 0 dX8_best_2 (by decide) (g_lconst hR 1 dX8_best_3 (by decide) (g_callS3P hR dX8_best_4 mlX8_78 (C8_in (by omega) (by omega) (by omega)) (by decide) (Nat.le_of_ble_eq_true rfl) (g_if_ne hR 12 dX8_best_7 (by decide) (by split <;> omega) (fun zc7 => ?_) (fun zc7 => ?_))))))
  · skip
    refine g_aload_0 hR dX8_best_12 (g_aload_0 hR dX8_best_13 (g_getI hR _ dX8_best_14 flX8_136 (by decide) rfl rfl h.hd.2.1 (g_callV1Z hR dX8_best_17 mlX8_199 (by decide) rfl rfl (C8_tryRow h.st h.ls h.hd ok.L hwo h6h h.rw h.rn ok.L.2.2.1.2 hrl hs4) (by decide) (Nat.le_of_ble_eq_true rfl) (fun zu1 hzu1 => ?_))))
    have hI1 := h.keep (hzu1.2.2.mono (by decide) (by decide)) hzu1.1
    refine g_istore_2 hR dX8_best_20 rfl (g_bipush hR dX8_best_21 (by decide) (g_istore_3 hR dX8_best_23 rfl (g_iconst hR dX8_best_24 (g_istore_4 hR dX8_best_25 rfl ?_))))
    have loop : ∀ (mm : Nat) (j : Nat) (u : f_Mem), mm = 6 * AK A - j → j ≤ 6 * AK A → InvM u A → ∀ x5 : Option Value, G 27 [some (.ref (f_ad E 0)), some (.int (iI w)), some (.int (iI ((bsF (lossW A) (loss0 A) j).2 : Nat))), some (.int (iI (bsF (lossW A) (loss0 A) j).1)), some (.int (iI j)), x5] [] u := by
      intro mm
      induction mm using Nat.strongRecOn with
      | ind mm ih =>
        intro j u hm hj hI x5
        have hb9 := bsF_le (f := lossW A) (b := loss0 A) (m := 200) hlw hl0 j
        have hw9 := hlw j
        refine g_iload_4 hR dX8_best_27 (g_bipush hR dX8_best_29 (by decide) (g_aload_0 hR dX8_best_31 (g_getI hR _ dX8_best_32 flX8_75 (by decide) rfl rfl hI.hd.1 (g_imul hR dX8_best_35 (g_icmp_ge hR 87 dX8_best_36 (by decide) (by omega) (by omega) (fun zc36 => ?_) (fun zc36 => ?_))))))
        · skip
          refine g_iload_1 hR dX8_best_87 (g_if_ne hR 95 dX8_best_88 (by decide) (by omega) (fun zc88 => ?_) (fun zc88 => ?_))
          · skip
            refine g_iload_2 hR dX8_best_95 ?_
            exact g_iret hR dX8_best_96 rfl (by unfold sp_best; rw [if_pos (by omega), if_neg (by omega)]; rw [show j = 6 * AK A from by omega]) hI
          · skip
            refine g_iload_3 hR dX8_best_91 (g_goto hR 96 dX8_best_92 (by decide) ?_)
            exact g_iret hR dX8_best_96 rfl (by unfold sp_best; rw [if_pos (by omega), if_pos (by omega)]; rw [show j = 6 * AK A from by omega]) hI
        · skip
          refine g_aload_0 hR dX8_best_39 (g_iload_4 hR dX8_best_40 (g_bipush hR dX8_best_42 (by decide) (g_idiv hR dX8_best_44 (by omega) (by omega) (g_iload_4 hR dX8_best_45 (g_bipush hR dX8_best_47 (by decide) (g_irem hR dX8_best_49 (by omega) (by omega) ?_))))))
          rw [show ((j : Nat) : Int) / 6 = ((j / 6 : Nat) : Int) from rfl, show ((j : Nat) : Int) % 6 = ((j % 6 : Nat) : Int) from rfl]
          refine g_callV2Z hR dX8_best_50 mlX8_211 (by decide) rfl rfl (C8_tryTaught hI ok (w := j) (by omega)) (by decide) (Nat.le_of_ble_eq_true rfl) (fun zu2 hzu2 => (g_istore_5 hR dX8_best_53 rfl (g_iload_5 hR dX8_best_55 (g_iload_2 hR dX8_best_57 (g_icmp_ge hR 66 dX8_best_58 (by decide) (by omega) (by omega) (fun zc58 => ?_) (fun zc58 => ?_))))))
          · skip
            refine g_iload_3 hR dX8_best_66 (g_istore_3 hR dX8_best_67 rfl (g_iload_5 hR dX8_best_68 (g_iload_2 hR dX8_best_70 (g_icmp_ge hR 79 dX8_best_71 (by decide) (by omega) (by omega) (fun zc71 => ?_) (fun zc71 => ?_)))))
            · skip
              refine g_iload_2 hR dX8_best_79 (g_istore_2 hR dX8_best_80 rfl (g_iinc_4 hR dX8_best_81 rfl (g_goto hR 27 dX8_best_84 (by decide) ?_)))
              have e9 : bsF (lossW A) (loss0 A) (j + 1) = (bsF (lossW A) (loss0 A) j) := if_neg (by omega)
              have h9 := ih (6 * AK A - (j + 1)) (by omega) (j + 1) zu2 rfl (by omega) hzu2
              rw [e9] at h9
              exact h9 _
            · skip
              exact absurd zc71 (by omega)
          · skip
            refine g_iload_4 hR dX8_best_61 (g_goto hR 67 dX8_best_63 (by decide) (g_istore_3 hR dX8_best_67 rfl (g_iload_5 hR dX8_best_68 (g_iload_2 hR dX8_best_70 (g_icmp_ge hR 79 dX8_best_71 (by decide) (by omega) (by omega) (fun zc71 => ?_) (fun zc71 => ?_))))))
            · skip
              exact absurd zc71 (by omega)
            · skip
              refine g_iload_5 hR dX8_best_74 (g_goto hR 80 dX8_best_76 (by decide) (g_istore_2 hR dX8_best_80 rfl (g_iinc_4 hR dX8_best_81 rfl (g_goto hR 27 dX8_best_84 (by decide) ?_))))
              have e9 : bsF (lossW A) (loss0 A) (j + 1) = ((j : Int), lossW A j) := if_pos (by omega)
              have h9 := ih (6 * AK A - (j + 1)) (by omega) (j + 1) zu2 rfl (by omega) hzu2
              rw [e9] at h9
              exact h9 _
    exact loop (6 * AK A) 0 zu1 (by omega) (by omega) hI1 _
  · skip
    refine g_iconst hR dX8_best_10 ?_
    exact g_iret hR dX8_best_11 rfl (by unfold sp_best; rw [if_neg (by omega)]; skip) h

theorem castsub (a b : Nat) : ((a + b : Nat) : Int) - (a : Int) = b := by omega
def yrU (L : Les) (s f : Nat) (g : Nat → Nat) (M : Mms) : Nat → Mms
  | 0 => M
  | n + 1 => dayU L s f (g n) (yrU L s f g M n)
theorem yrU_1 (L : Les) (s f : Nat) (g : Nat → Nat) (M : Mms) : ∀ n, (yrU L s f g M n).1 = yrR L s f g M.1 n
  | 0 => rfl
  | n + 1 => by
    show dayR L s f (g n) (yrU L s f g M n).1 = dayR L s f (g n) (yrR L s f g M.1 n)
    rw [yrU_1 L s f g M n]
theorem yrU_6 (L : Les) (s f : Nat) (g : Nat → Nat) (M : Mms) : ∀ n, (yrU L s f g M n).2.1.length = M.2.1.length
  | 0 => rfl
  | n + 1 => List.length_set.trans (yrU_6 L s f g M n)
theorem yrU_l (L : Les) (s f : Nat) (g : Nat → Nat) (M : Mms) : ∀ n, (yrU L s f g M n).2.2.2.1 = M.2.2.2.1 + yrL L s f g M.1 n
  | 0 => rfl
  | n + 1 => by
    show (yrU L s f g M n).2.2.2.1 + lo L (g n) (does L s f (g n) (yrU L s f g M n).1) = M.2.2.2.1 + (yrL L s f g M.1 n + lo L (g n) (does L s f (g n) (yrR L s f g M.1 n)))
    rw [yrU_l L s f g M n, yrU_1]; omega
theorem yrU_g (L : Les) (s f : Nat) (g : Nat → Nat) (M : Mms) : ∀ n, (yrU L s f g M n).2.2.2.2 = M.2.2.2.2 + yrG L s f g M.1 n
  | 0 => rfl
  | n + 1 => by
    show (yrU L s f g M n).2.2.2.2 + (if oc L (g n) (does L s f (g n) (yrU L s f g M n).1) = 0 then 1 else 0) = M.2.2.2.2 + (yrG L s f g M.1 n + if oc L (g n) (does L s f (g n) (yrR L s f g M.1 n)) = 0 then 1 else 0)
    rw [yrU_g L s f g M n, yrU_1]; omega

theorem M_year {E : f_E} {σ : f_Mem} {A : AS} (h : InvM σ A) (ok : ASOK A) {z n w : Int} (hz : -2147483648 ≤ z ∧ z < 2147483648) (hn : -2147483648 ≤ n ∧ n < 2147483648) (hw : -2147483648 ≤ w ∧ w < 2147483648) : FZ E sM mX8_year 12 [.ref (f_ad E 0), .int (iI z), .int (iI n), .int (iI w)] σ (sp_year A z n w) (fun u => InvM u A) := by
  have hK1 := ok.K1
  have hK6 := ok.K6
  have hkk : AK A = (Lm (AL A)).length := rfl
  have hrl := ok.L.rl
  have hwl := ok.wl
  have hwo := ok.w
  have h6h := ok.M.2.2
  have hf6 := ok.L.f
  have hs4 := ok.L.s
  refine FZ.intro rfl (Nat.le_of_ble_eq_true rfl) (L0 := [some (.ref (f_ad E 0)), some (.int (iI z)), some (.int (iI n)), some (.int (iI w)), none, none, none]) rfl (fun G hR => ?_)
  refine g_iload_1 hR dX8_year_0 (g_i2l hR dX8_year_1 (by omega) (g_lconst hR 0 dX8_year_2 (by decide) (g_ldc2 hR (9999) dX8_year_3 kcX8_245 (by decide) (g_callS3P hR dX8_year_6 mlX8_78 (C8_in (by omega) (by omega) (by omega)) (by decide) (Nat.le_of_ble_eq_true rfl) (g_if_eq hR 34 dX8_year_9 (by decide) (by split <;> omega) (fun zc9 => ?_) (fun zc9 => ?_))))))
  · skip
    refine g_iconst hR dX8_year_34 ?_
    exact g_iret hR dX8_year_35 rfl (by unfold sp_year; rw [if_neg (by omega)]; skip) h
  · skip
    refine g_iload_2 hR dX8_year_12 (g_i2l hR dX8_year_13 (by omega) (g_lconst hR 1 dX8_year_14 (by decide) (g_ldc2 hR (60) dX8_year_15 kcX8_247 (by decide) (g_callS3P hR dX8_year_18 mlX8_78 (C8_in (by omega) (by omega) (by omega)) (by decide) (Nat.le_of_ble_eq_true rfl) (g_if_eq hR 34 dX8_year_21 (by decide) (by split <;> omega) (fun zc21 => ?_) (fun zc21 => ?_))))))
    · skip
      refine g_iconst hR dX8_year_34 ?_
      exact g_iret hR dX8_year_35 rfl (by unfold sp_year; rw [if_neg (by omega)]; skip) h
    · skip
      refine g_iload_3 hR dX8_year_24 (g_i2l hR dX8_year_25 (by omega) (g_lconst hR 0 dX8_year_26 (by decide) (g_lconst hR 1 dX8_year_27 (by decide) (g_callS3P hR dX8_year_28 mlX8_78 (C8_in (by omega) (by omega) (by omega)) (by decide) (Nat.le_of_ble_eq_true rfl) (g_if_ne hR 36 dX8_year_31 (by decide) (by split <;> omega) (fun zc31 => ?_) (fun zc31 => ?_))))))
      · skip
        obtain ⟨zq, rfl⟩ : ∃ zq : Nat, z = zq := ⟨z.toNat, by omega⟩
        obtain ⟨nq, rfl⟩ : ∃ nq : Nat, n = nq := ⟨n.toNat, by omega⟩
        refine g_aload_0 hR dX8_year_36 (g_callV0V hR dX8_year_37 mlX8_188 (by decide) rfl rfl (C8_putAside) (by decide) (Nat.le_of_ble_eq_true rfl) (fun zu1 hzu1 => (g_iconst hR dX8_year_40 (g_istore_4 hR dX8_year_41 rfl ?_))))
        have loop : ∀ (mm : Nat) (j : Nat) (u : f_Mem), mm = nq - j → j ≤ nq → StM u 3 0 (yrU (AL A) (Lsort (AL A)) (Lfirst (AL A)) (yK A zq) (AM A) j) → FrM [3] [17] zu1 u → ∀ x5 : Option Value, G 43 [some (.ref (f_ad E 0)), some (.int (iI zq)), some (.int (iI nq)), some (.int (iI w)), some (.int (iI j)), x5, none] [] u := by
          intro mm
          induction mm using Nat.strongRecOn with
          | ind mm ih =>
            intro j u hm hj hS hF x5
            have hL1 := (h.ls.fr (hzu1.2.1 1 (by decide) (by decide))).fr (hF.1 1 (by decide) (by decide))
            have hw1 : WOK (AL A) (yrU (AL A) (Lsort (AL A)) (Lfirst (AL A)) (yK A zq) (AM A) j).1 := by rw [yrU_1]; exact yrR_ok ok.L _ _ (yK_lt ok zq) hwo j
            have h61 : (yrU (AL A) (Lsort (AL A)) (Lfirst (AL A)) (yK A zq) (AM A) j).2.1.length = 6 := by rw [yrU_6]; exact h6h
            have hk1 : yK A zq j < (Lm (AL A)).length := yK_lt ok zq j
            have hX : yX zq j ≤ 100000000 := by unfold yX; omega
            have hXX : (0 : Int) ≤ (yX zq j : Int) * (yX zq j : Int) ∧ (yX zq j : Int) * (yX zq j : Int) < 9223372036854775808 := by
              have q1 := Nat.mul_le_mul hX hX
              rw [show (yX zq j : Int) * (yX zq j : Int) = ((yX zq j * yX zq j : Nat) : Int) from (Int.natCast_mul _ _).symm]
              omega
            have eX : (7919 * (zq : Int) + 6151 * (j : Int) + 1) = (yX zq j : Int) := by unfold yX; omega
            refine g_iload_4 hR dX8_year_43 (g_iload_2 hR dX8_year_45 (g_icmp_ge hR 106 dX8_year_46 (by decide) (by omega) (by omega) (fun zc46 => ?_) (fun zc46 => ?_)))
            · skip
              refine g_iload_3 hR dX8_year_106 (g_if_ne hR 128 dX8_year_107 (by decide) (by omega) (fun zc107 => ?_) (fun zc107 => ?_))
              · skip
                refine g_aload_0 hR dX8_year_128 (g_getR hR dX8_year_129 flX8_16 (by decide) rfl rfl (g_bipush hR dX8_year_132 (by decide) (g_aldU hR _ dX8_year_134 (by decide) rfl (by decide) (by omega) hS.goods (by omega) (g_aload_0 hR dX8_year_135 (g_getR hR dX8_year_136 flX8_34 (by decide) rfl rfl (g_bipush hR dX8_year_139 (by decide) (g_aldU hR _ dX8_year_141 (by decide) rfl (by decide) (by omega) ((congrFun (hF.1 9 (by decide) (by decide)) (0 + 43)).trans ((hzu1.1 43 (by decide)).trans h.st.goods)) (by omega) (g_isub hR dX8_year_142 (g_istore_4 hR dX8_year_143 rfl (g_aload_0 hR dX8_year_145 (g_callV0V hR dX8_year_146 mlX8_194 (by decide) rfl rfl (C8_takeBack) (by decide) (Nat.le_of_ble_eq_true rfl) (fun zu2 hzu2 => ?_))))))))))))
                have hF2 : FrM [3, 9] [17] σ zu2 := (hzu1.2.mono (by decide) (by decide)).tr ((hF.mono (by decide) (by decide)).tr (hzu2.2.mono (by decide) (by decide)))
                have hI2 := h.keep (hF2.mono (by decide) (by decide)) (h.st.cp (fun i hi => (hzu2.1 i hi).trans ((congrFun (hF.1 9 (by decide) (by decide)) (0 + i)).trans (hzu1.1 i hi))))
                refine g_iload_4 hR dX8_year_149 ?_
                exact g_iret hR dX8_year_151 rfl (by unfold sp_year; rw [if_pos (by omega), if_neg (by omega)]; rw [show j = nq from by omega, yrU_g]; exact castsub _ _) hI2
              · skip
                refine g_aload_0 hR dX8_year_110 (g_getR hR dX8_year_111 flX8_16 (by decide) rfl rfl (g_bipush hR dX8_year_114 (by decide) (g_aldU hR _ dX8_year_116 (by decide) rfl (by decide) (by omega) hS.lost (by omega) (g_aload_0 hR dX8_year_117 (g_getR hR dX8_year_118 flX8_34 (by decide) rfl rfl (g_bipush hR dX8_year_121 (by decide) (g_aldU hR _ dX8_year_123 (by decide) rfl (by decide) (by omega) ((congrFun (hF.1 9 (by decide) (by decide)) (0 + 42)).trans ((hzu1.1 42 (by decide)).trans h.st.lost)) (by omega) (g_isub hR dX8_year_124 (g_goto hR 143 dX8_year_125 (by decide) (g_istore_4 hR dX8_year_143 rfl (g_aload_0 hR dX8_year_145 (g_callV0V hR dX8_year_146 mlX8_194 (by decide) rfl rfl (C8_takeBack) (by decide) (Nat.le_of_ble_eq_true rfl) (fun zu2 hzu2 => ?_)))))))))))))
                have hF2 : FrM [3, 9] [17] σ zu2 := (hzu1.2.mono (by decide) (by decide)).tr ((hF.mono (by decide) (by decide)).tr (hzu2.2.mono (by decide) (by decide)))
                have hI2 := h.keep (hF2.mono (by decide) (by decide)) (h.st.cp (fun i hi => (hzu2.1 i hi).trans ((congrFun (hF.1 9 (by decide) (by decide)) (0 + i)).trans (hzu1.1 i hi))))
                refine g_iload_4 hR dX8_year_149 ?_
                exact g_iret hR dX8_year_151 rfl (by unfold sp_year; rw [if_pos (by omega), if_pos (by omega)]; rw [show j = nq from by omega, yrU_l]; exact castsub _ _) hI2
            · skip
              refine g_ldc2 hR (7919) dX8_year_49 kcX8_249 (by decide) (g_iload_1 hR dX8_year_52 (g_i2l hR dX8_year_53 (by omega) (g_lmul hR dX8_year_54 (g_ldc2 hR (6151) dX8_year_55 kcX8_251 (by decide) (g_iload_4 hR dX8_year_58 (g_i2l hR dX8_year_60 (by omega) (g_lmul hR dX8_year_61 (g_ladd hR dX8_year_62 (g_lconst hR 1 dX8_year_63 (by decide) (g_ladd hR dX8_year_64 ?_))))))))))
              rw [eX]
              refine g_lstore_5 hR dX8_year_65 rfl (g_aload_0 hR dX8_year_67 (g_aload_0 hR dX8_year_68 (g_getI hR _ dX8_year_69 flX8_136 (by decide) rfl rfl ((hF.2 2 (by decide)).trans ((hzu1.2.2 2 (by decide)).trans h.hd.2.1)) (g_aload_0 hR dX8_year_72 (g_getI hR _ dX8_year_73 flX8_139 (by decide) rfl rfl ((hF.2 3 (by decide)).trans ((hzu1.2.2 3 (by decide)).trans h.hd.2.2)) (g_lload_5 hR dX8_year_76 (g_lload_5 hR dX8_year_78 (g_lmul hR dX8_year_80 (g_ldc2 hR (65521) dX8_year_81 kcX8_253 (by decide) (g_lrem hR dX8_year_84 hXX (by omega) (g_ldc2 hR (8) dX8_year_85 kcX8_255 (by decide) (g_ldiv hR dX8_year_88 (by omega) (by omega) (g_aload_0 hR dX8_year_89 (g_getI hR _ dX8_year_90 flX8_75 (by decide) rfl rfl ((hF.2 1 (by decide)).trans ((hzu1.2.2 1 (by decide)).trans h.hd.1)) (g_i2l hR dX8_year_93 (by omega) (g_lrem hR dX8_year_94 (by omega) (by omega) (g_l2i hR dX8_year_95 ?_)))))))))))))))))
              rw [show (yX zq j : Int) * (yX zq j : Int) % 65521 / 8 % ((Lm (AL A)).length : Nat) = ((yK A zq j : Nat) : Int) from by unfold yK; rw [hkk]; simp only [Int.natCast_emod, Int.natCast_ediv, Int.natCast_mul]; rfl]
              refine g_callV3Z hR dX8_year_96 mlX8_185 (by decide) rfl rfl (C8_day hS hL1 ok.L hw1 h61 hs4 hf6 hk1) (by decide) (Nat.le_of_ble_eq_true rfl) (fun zu2 hzu2 => (g_pop hR dX8_year_99 rfl (g_iinc_4 hR dX8_year_100 rfl (g_goto hR 43 dX8_year_103 (by decide) ?_))))
              exact ih (nq - (j + 1)) (by omega) (j + 1) zu2 rfl (by omega) hzu2.1 (hF.tr hzu2.2.2) _
        exact loop nq 0 zu1 (by omega) (by omega) (h.st.fr (hzu1.2.1 3 (by decide) (by decide))) FrM.rf _
      · skip
        refine g_iconst hR dX8_year_34 ?_
        exact g_iret hR dX8_year_35 rfl (by unfold sp_year; rw [if_neg (by omega)]; skip) h
