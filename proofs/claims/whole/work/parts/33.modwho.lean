
def fitJ (A : AS) (s f j : Nat) : Bool := ((Az A).take j).all (fun v => decide ((runD (AL A) s f (Lrow (AL A)) []).getD (v / 6) 0 = v % 6))
theorem fitJ_succ {A : AS} {s f j : Nat} (h : j < (Az A).length) : fitJ A s f (j + 1) = (fitJ A s f j && decide ((runD (AL A) s f (Lrow (AL A)) []).getD ((Az A).getD j 0 / 6) 0 = (Az A).getD j 0 % 6)) := by
  unfold fitJ
  rw [take_snoc h, List.all_append]
  simp
theorem fitJ_all (A : AS) (s f : Nat) : fitJ A s f (Az A).length = fitB A s f := by unfold fitJ fitB; rw [List.take_length]
theorem wok_nil (L : Les) : WOK L [] := fun w h => absurd h List.not_mem_nil

theorem C8_isFit {E : f_E} {σ : f_Mem} {A : AS} (h : InvM σ A) (ok : ASOK A) {s f : Nat} (hs : s < 4) (hf : f < 6) : FZ E sM mX8_isFit 6 [.ref (f_ad E 0), .int (iI s), .int (iI f)] σ (if fitB A s f = true then 1 else 0) (fun u => InvM u A) := by
  have hK1 := ok.K1
  have hK6 := ok.K6
  have hkk : AK A = (Lm (AL A)).length := rfl
  have hrl := ok.L.rl
  have hwl := ok.wl
  have hwo := ok.w
  have h6h := ok.M.2.2
  have hf6 := ok.L.f
  have hs4 := ok.L.s
  have hz := ok.2.2.2.2.2.2.1
  have hzl := ok.2.2.2.2.2.2.2
  refine FZ.intro rfl (Nat.le_of_ble_eq_true rfl) (L0 := [some (.ref (f_ad E 0)), some (.int (iI s)), some (.int (iI f)), none, none]) rfl (fun G hR => ?_)
  refine g_aload_0 hR dX8_isFit_0 (g_callV0V hR dX8_isFit_1 mlX8_188 (by decide) rfl rfl (C8_putAside) (by decide) (Nat.le_of_ble_eq_true rfl) (fun zu1 hzu1 => (g_iconst hR dX8_isFit_4 (g_istore_3 hR dX8_isFit_5 rfl ?_))))
  have loop : ∀ (mm : Nat) (j : Nat) (u : f_Mem), mm = 50 - j → j ≤ 50 → (∀ i, i < j → u 3 i = iI 0) → FrM [3] [] zu1 u → G 6 [some (.ref (f_ad E 0)), some (.int (iI s)), some (.int (iI f)), some (.int (iI j)), none] [] u := by
    intro mm
    induction mm using Nat.strongRecOn with
    | ind mm ih =>
      intro j u hm hj hc hF
      have hL2 := (h.ls.fr (hzu1.2.1 1 (by decide) (by decide))).fr (hF.1 1 (by decide) (by decide))
      have hrw2 := (h.rw.fr (hzu1.2.1 2 (by decide) (by decide))).fr (hF.1 2 (by decide) (by decide))
      have hrn2 := (hF.2 5 (by decide)).trans ((hzu1.2.2 5 (by decide)).trans h.rn)
      refine g_iload_3 hR dX8_isFit_6 (g_bipush hR dX8_isFit_7 (by decide) (g_icmp_ge hR 25 dX8_isFit_9 (by decide) (by omega) (by omega) (fun zc9 => ?_) (fun zc9 => ?_)))
      · skip
        obtain rfl : j = 50 := by omega
        refine g_aload_0 hR dX8_isFit_25 (g_iload_1 hR dX8_isFit_26 (g_iload_2 hR dX8_isFit_27 (g_callV2Z hR dX8_isFit_28 mlX8_191 (by decide) rfl rfl (C8_runRow (L := AL A) (M := M00) (StM.zero hc) hL2 ok.L (wok_nil _) rfl hrw2 hrn2 ok.L.2.2.1.2 hrl hs hf) (by decide) (Nat.le_of_ble_eq_true rfl) (fun zu3 hzu3 => (g_pop hR dX8_isFit_31 rfl (g_aload_0 hR dX8_isFit_32 (g_callV0V hR dX8_isFit_33 mlX8_194 (by decide) rfl rfl (C8_takeBack) (by decide) (Nat.le_of_ble_eq_true rfl) (fun zu4 hzu4 => ?_))))))))
        have hFF : FrM [3, 9, 10, 11] [17] σ zu4 := (hzu1.2.mono (by decide) (by decide)).tr ((hF.mono (by decide) (by decide)).tr ((hzu3.2.2.mono (by decide) (by decide)).tr (hzu4.2.mono (by decide) (by decide))))
        have hI := h.keep (hFF.mono (by decide) (by decide)) (h.st.cp (fun i hi => (hzu4.1 i hi).trans ((congrFun (hzu3.2.2.1 9 (by decide) (by decide)) (0 + i)).trans ((congrFun (hF.1 9 (by decide) (by decide)) (0 + i)).trans (hzu1.1 i hi)))))
        have hD : Dn zu4 (AL A) s f (Lrow (AL A)) [] (Lrow (AL A)).length := hzu3.2.1.fr (hzu4.2.1 10 (by decide) (by decide)) (hzu4.2.1 11 (by decide) (by decide))
        refine g_iconst hR dX8_isFit_36 (g_istore_3 hR dX8_isFit_37 rfl (g_iconst hR dX8_isFit_38 (g_istore_4 hR dX8_isFit_39 rfl ?_)))
        have loop2 : ∀ (mm2 : Nat) (j : Nat), mm2 = (Az A).length - j → j ≤ (Az A).length → G 41 [some (.ref (f_ad E 0)), some (.int (iI s)), some (.int (iI f)), some (.int (iI (if fitJ A s f j = true then (1 : Int) else 0))), some (.int (iI j))] [] zu4 := by
          intro mm2
          induction mm2 using Nat.strongRecOn with
          | ind mm2 ih2 =>
            intro j hm hj
            have hd9 := runD_lt (L := AL A) (s := s) hf (Lrow (AL A)) [] ((Az A).getD j 0 / 6)
            refine g_iload_4 hR dX8_isFit_41 (g_aload_0 hR dX8_isFit_43 (g_getI hR _ dX8_isFit_44 flX8_145 (by decide) rfl rfl hI.sl (g_icmp_ge hR 88 dX8_isFit_47 (by decide) (by omega) (by omega) (fun zc47 => ?_) (fun zc47 => ?_))))
            · skip
              refine g_iload_3 hR dX8_isFit_88 ?_
              exact g_zret hR dX8_isFit_89 rfl (by split <;> omega) (by rw [show j = (Az A).length from by omega, fitJ_all]) hI
            · skip
              refine g_iload_3 hR dX8_isFit_50 (g_if_eq hR 80 dX8_isFit_51 (by decide) (by split <;> omega) (fun zc51 => ?_) (fun zc51 => ?_))
              · skip
                refine g_iconst hR dX8_isFit_80 (g_istore_3 hR dX8_isFit_81 rfl (g_iinc_4 hR dX8_isFit_82 rfl (g_goto hR 41 dX8_isFit_85 (by decide) ?_)))
                have e9 : fitJ A s f (j + 1) = false := by rw [fitJ_succ (by omega), ifB zc51]; rfl
                have h9 := ih2 ((Az A).length - (j + 1)) (by omega) (j + 1) rfl (by omega)
                rw [e9] at h9
                exact h9
              · skip
                refine g_aload_0 hR dX8_isFit_54 (g_getR hR dX8_isFit_55 flX8_37 (by decide) rfl rfl (g_aload_0 hR dX8_isFit_58 (g_getR hR dX8_isFit_59 flX8_52 (by decide) rfl rfl (g_iload_4 hR dX8_isFit_62 (g_aldU hR _ dX8_isFit_64 (by decide) rfl (by decide) (by omega) (hI.sn j (by omega)).1 (by omega) (g_aldU hR _ dX8_isFit_65 (by decide) rfl (by decide) (by have := hz _ (getD_mem (show j < (Az A).length from by omega)); omega) (hD ((Az A).getD j 0 / 6) (hz _ (getD_mem (by omega)))).1 (by omega) (g_aload_0 hR dX8_isFit_66 (g_getR hR dX8_isFit_67 flX8_55 (by decide) rfl rfl (g_iload_4 hR dX8_isFit_70 (g_aldU hR _ dX8_isFit_72 (by decide) rfl (by decide) (by omega) (hI.sn j (by omega)).2 (by omega) (g_icmp_ne hR 80 dX8_isFit_73 (by decide) (by omega) (by omega) (fun zc73 => ?_) (fun zc73 => ?_))))))))))))
                · skip
                  refine g_iconst hR dX8_isFit_80 (g_istore_3 hR dX8_isFit_81 rfl (g_iinc_4 hR dX8_isFit_82 rfl (g_goto hR 41 dX8_isFit_85 (by decide) ?_)))
                  have e9 : fitJ A s f (j + 1) = false := by rw [fitJ_succ (by omega), decide_eq_false (by omega), Bool.and_false]
                  have h9 := ih2 ((Az A).length - (j + 1)) (by omega) (j + 1) rfl (by omega)
                  rw [e9] at h9
                  exact h9
                · skip
                  refine g_iconst hR dX8_isFit_76 (g_goto hR 81 dX8_isFit_77 (by decide) (g_istore_3 hR dX8_isFit_81 rfl (g_iinc_4 hR dX8_isFit_82 rfl (g_goto hR 41 dX8_isFit_85 (by decide) ?_))))
                  have e9 : fitJ A s f (j + 1) = true := by rw [fitJ_succ (by omega), decide_eq_true (by omega), ifB1 zc51]; rfl
                  have h9 := ih2 ((Az A).length - (j + 1)) (by omega) (j + 1) rfl (by omega)
                  rw [e9] at h9
                  exact h9
        exact loop2 (Az A).length 0 (by omega) (by omega)
      · skip
        refine g_aload_0 hR dX8_isFit_12 (g_getR hR dX8_isFit_13 flX8_16 (by decide) rfl rfl (g_iload_3 hR dX8_isFit_16 (g_iconst hR dX8_isFit_17 (g_astU hR (j) dX8_isFit_18 (by decide) rfl (by decide) (by omega) (by omega) (fun zu2 hzu2 => (g_iinc_3 hR dX8_isFit_19 rfl (g_goto hR 6 dX8_isFit_22 (by decide) ?_)))))))
        exact ih (50 - (j + 1)) (by omega) (j + 1) zu2 rfl (by omega) (fun i hi => by
          by_cases q : i = j
          · rw [q]; exact hzu2.1
          · rw [hzu2.2.1 i q]; exact hc i (by omega)) (hF.tr (FrM.ar hzu2 (by decide) (by decide)))
  exact loop 50 0 zu1 (by omega) (by omega) (fun i hi => absurd hi (by omega)) FrM.rf
theorem M_fits {E : f_E} {σ : f_Mem} {A : AS} (h : InvM σ A) (ok : ASOK A) : FZ E sM mX8_fits 11 [.ref (f_ad E 0)] σ (sp_fits A) (fun u => InvM u A) := by
  have hK1 := ok.K1
  have hK6 := ok.K6
  have hkk : AK A = (Lm (AL A)).length := rfl
  have hrl := ok.L.rl
  have hwl := ok.wl
  have hwo := ok.w
  have h6h := ok.M.2.2
  have hf6 := ok.L.f
  have hs4 := ok.L.s
  refine FZ.intro rfl (Nat.le_of_ble_eq_true rfl) (L0 := [some (.ref (f_ad E 0)), none, none]) rfl (fun G hR => ?_)
  refine g_iconst hR dX8_fits_0 (g_istore_1 hR dX8_fits_1 rfl (g_iconst hR dX8_fits_2 (g_istore_2 hR dX8_fits_3 rfl ?_)))
  have loop : ∀ (mm : Nat) (j : Nat) (u : f_Mem), mm = 4 - j → j ≤ 4 → InvM u A → G 4 [some (.ref (f_ad E 0)), some (.int (iI (bitsF (fun s => fitB A s (Lfirst (AL A))) j : Nat))), some (.int (iI j))] [] u := by
    intro mm
    induction mm using Nat.strongRecOn with
    | ind mm ih =>
      intro j u hm hj hI
      refine g_iload_2 hR dX8_fits_4 (g_iconst hR dX8_fits_5 (g_icmp_ge hR 37 dX8_fits_6 (by decide) (by omega) (by omega) (fun zc6 => ?_) (fun zc6 => ?_)))
      · skip
        refine g_iload_1 hR dX8_fits_37 ?_
        obtain rfl : j = 4 := by omega
        exact g_iret hR dX8_fits_38 rfl rfl hI
      · skip
        refine g_iload_1 hR dX8_fits_9 (g_aload_0 hR dX8_fits_10 (g_iload_2 hR dX8_fits_11 (g_aload_0 hR dX8_fits_12 (g_getI hR _ dX8_fits_13 flX8_139 (by decide) rfl rfl hI.hd.2.2 (g_callV2Z hR dX8_fits_16 mlX8_214 (by decide) rfl rfl (C8_isFit hI ok (s := j) (by omega) hf6) (by decide) (Nat.le_of_ble_eq_true rfl) (fun zu1 hzu1 => (g_if_eq hR 28 dX8_fits_19 (by decide) (by split <;> omega) (fun zc19 => ?_) (fun zc19 => ?_))))))))
        · skip
          refine g_iconst hR dX8_fits_28 (g_ior hR (b := 0) dX8_fits_29 (g_istore_1 hR dX8_fits_30 rfl (g_iinc_2 hR dX8_fits_31 rfl (g_goto hR 4 dX8_fits_34 (by decide) ?_))))
          have e9 : bitsF (fun s => fitB A s (Lfirst (AL A))) (j + 1) = bitsF (fun s => fitB A s (Lfirst (AL A))) j ||| 0 := by rw [Nat.or_zero]; exact if_neg (fun q => absurd ((ifB zc19).symm.trans q) (by decide))
          have h9 := ih (4 - (j + 1)) (by omega) (j + 1) zu1 rfl (by omega) hzu1
          rw [e9] at h9
          exact h9
        · skip
          refine g_iconst hR dX8_fits_22 (g_iload_2 hR dX8_fits_23 (g_ishl1 hR dX8_fits_24 (by omega) (g_goto hR 29 dX8_fits_25 (by decide) (g_ior hR dX8_fits_29 (g_istore_1 hR dX8_fits_30 rfl (g_iinc_2 hR dX8_fits_31 rfl (g_goto hR 4 dX8_fits_34 (by decide) ?_)))))))
          have e9 : bitsF (fun s => fitB A s (Lfirst (AL A))) (j + 1) = bitsF (fun s => fitB A s (Lfirst (AL A))) j ||| (1 * 2 ^ j) := if_pos (ifB1 zc19)
          have h9 := ih (4 - (j + 1)) (by omega) (j + 1) zu1 rfl (by omega) hzu1
          rw [e9] at h9
          exact h9
  exact loop 4 0 σ (by omega) (by omega) h
theorem M_firsts {E : f_E} {σ : f_Mem} {A : AS} (h : InvM σ A) (ok : ASOK A) {s : Int} (hs : -2147483648 ≤ s ∧ s < 2147483648) : FZ E sM mX8_firsts 12 [.ref (f_ad E 0), .int (iI s)] σ (sp_firsts A s) (fun u => InvM u A) := by
  have hK1 := ok.K1
  have hK6 := ok.K6
  have hkk : AK A = (Lm (AL A)).length := rfl
  have hrl := ok.L.rl
  have hwl := ok.wl
  have hwo := ok.w
  have h6h := ok.M.2.2
  have hf6 := ok.L.f
  have hs4 := ok.L.s
  refine FZ.intro rfl (Nat.le_of_ble_eq_true rfl) (L0 := [some (.ref (f_ad E 0)), some (.int (iI s)), none, none]) rfl (fun G hR => ?_)
  refine g_iload_1 hR dX8_firsts_0 (g_i2l hR dX8_firsts_1 (by omega) (g_lconst hR 0 dX8_firsts_2 (by decide) (g_ldc2 hR (3) dX8_firsts_3 kcX8_180 (by decide) (g_callS3P hR dX8_firsts_6 mlX8_78 (C8_in (by omega) (by omega) (by omega)) (by decide) (Nat.le_of_ble_eq_true rfl) (g_if_ne hR 14 dX8_firsts_9 (by decide) (by split <;> omega) (fun zc9 => ?_) (fun zc9 => ?_))))))
  · skip
    obtain ⟨sq, rfl⟩ : ∃ sq : Nat, s = sq := ⟨s.toNat, by omega⟩
    refine g_iconst hR dX8_firsts_14 (g_istore_2 hR dX8_firsts_15 rfl (g_iconst hR dX8_firsts_16 (g_istore_3 hR dX8_firsts_17 rfl ?_)))
    have loop : ∀ (mm : Nat) (j : Nat) (u : f_Mem), mm = 6 - j → j ≤ 6 → InvM u A → G 18 [some (.ref (f_ad E 0)), some (.int (iI sq)), some (.int (iI (bitsF (fun f => fitB A sq f) j : Nat))), some (.int (iI j))] [] u := by
      intro mm
      induction mm using Nat.strongRecOn with
      | ind mm ih =>
        intro j u hm hj hI
        refine g_iload_3 hR dX8_firsts_18 (g_bipush hR dX8_firsts_19 (by decide) (g_icmp_ge hR 49 dX8_firsts_21 (by decide) (by omega) (by omega) (fun zc21 => ?_) (fun zc21 => ?_)))
        · skip
          refine g_iload_2 hR dX8_firsts_49 ?_
          obtain rfl : j = 6 := by omega
          exact g_iret hR dX8_firsts_50 rfl (by unfold sp_firsts; rw [if_pos (by omega)]; rfl) hI
        · skip
          refine g_iload_2 hR dX8_firsts_24 (g_aload_0 hR dX8_firsts_25 (g_iload_1 hR dX8_firsts_26 (g_iload_3 hR dX8_firsts_27 (g_callV2Z hR dX8_firsts_28 mlX8_214 (by decide) rfl rfl (C8_isFit hI ok (s := sq) (f := j) (by omega) (by omega)) (by decide) (Nat.le_of_ble_eq_true rfl) (fun zu1 hzu1 => (g_if_eq hR 40 dX8_firsts_31 (by decide) (by split <;> omega) (fun zc31 => ?_) (fun zc31 => ?_)))))))
          · skip
            refine g_iconst hR dX8_firsts_40 (g_ior hR (b := 0) dX8_firsts_41 (g_istore_2 hR dX8_firsts_42 rfl (g_iinc_3 hR dX8_firsts_43 rfl (g_goto hR 18 dX8_firsts_46 (by decide) ?_))))
            have e9 : bitsF (fun f => fitB A sq f) (j + 1) = bitsF (fun f => fitB A sq f) j ||| 0 := by rw [Nat.or_zero]; exact if_neg (fun q => absurd ((ifB zc31).symm.trans q) (by decide))
            have h9 := ih (6 - (j + 1)) (by omega) (j + 1) zu1 rfl (by omega) hzu1
            rw [e9] at h9
            exact h9
          · skip
            refine g_iconst hR dX8_firsts_34 (g_iload_3 hR dX8_firsts_35 (g_ishl1 hR dX8_firsts_36 (by omega) (g_goto hR 41 dX8_firsts_37 (by decide) (g_ior hR dX8_firsts_41 (g_istore_2 hR dX8_firsts_42 rfl (g_iinc_3 hR dX8_firsts_43 rfl (g_goto hR 18 dX8_firsts_46 (by decide) ?_)))))))
            have e9 : bitsF (fun f => fitB A sq f) (j + 1) = bitsF (fun f => fitB A sq f) j ||| (1 * 2 ^ j) := if_pos (ifB1 zc31)
            have h9 := ih (6 - (j + 1)) (by omega) (j + 1) zu1 rfl (by omega) hzu1
            rw [e9] at h9
            exact h9
    exact loop 6 0 σ (by omega) (by omega) h
  · skip
    refine g_iconst hR dX8_firsts_12 ?_
    exact g_iret hR dX8_firsts_13 rfl (by unfold sp_firsts; rw [if_neg (by omega)]; skip) h

theorem mx6_maxN (f : Nat → Nat) : mx6 f = maxN f 6 := by
  show max (f 0) (max (f 1) (max (f 2) (max (f 3) (max (f 4) (f 5))))) = max (max (max (max (max (max 0 (f 0)) (f 1)) (f 2)) (f 3)) (f 4)) (f 5)
  omega
def gK (A : AS) (k : Nat) : Nat → Option Nat := gA A (fitsN A) k
def fK (A : AS) (k : Nat) : Nat := mx6 (cntA (gK A k) 4)
def bA (A : AS) (n : Nat) : Int := if n = 0 then -4 else ((amn (fK A) n).1 : Nat)
def lA (A : AS) (n : Nat) : Int := if n = 0 then -4 else ((amn (fK A) n).2 : Nat)
theorem fK_le (A : AS) (k : Nat) : fK A k ≤ 4 := mx6_le (cntA_le (gK A k) 4)
theorem ask_up {A : AS} {k : Nat} (h : bA A k < 0 ∨ (fK A k : Int) < lA A k) : bA A (k + 1) = k ∧ lA A (k + 1) = fK A k := by
  have e : amn (fK A) (k + 1) = (k, fK A k) := by
    refine if_pos ?_
    by_cases q : k = 0
    · subst q; have := fK_le A 0; show fK A 0 < 5; omega
    · unfold bA lA at h; rw [if_neg q, if_neg q] at h; omega
  unfold bA lA
  rw [if_neg (by omega), if_neg (by omega), e]; exact ⟨rfl, rfl⟩
theorem ask_stay {A : AS} {k : Nat} (h1 : 0 ≤ bA A k) (h2 : lA A k ≤ (fK A k : Int)) : bA A (k + 1) = bA A k ∧ lA A (k + 1) = lA A k := by
  have q : k ≠ 0 := fun q => by subst q; unfold bA at h1; rw [if_pos rfl] at h1; omega
  unfold bA lA at *
  rw [if_neg q] at h1 h2
  have e : amn (fK A) (k + 1) = amn (fK A) k := if_neg (by omega)
  rw [if_neg (show ¬ k + 1 = 0 from by omega), if_neg (show ¬ k + 1 = 0 from by omega), if_neg q, if_neg q, e]; exact ⟨rfl, rfl⟩
theorem bA_lt (A : AS) (k : Nat) : -4 ≤ bA A k ∧ bA A k < k := by
  unfold bA
  by_cases q : k = 0
  · rw [if_pos q]; omega
  · rw [if_neg q]
    have : ∀ n, 0 < n → (amn (fK A) n).1 < n := fun n hn => by
      induction n with
      | zero => omega
      | succ n ih =>
        show (if fK A n < (amn (fK A) n).2 then (n, fK A n) else amn (fK A) n).1 < n + 1
        by_cases z : fK A n < (amn (fK A) n).2
        · rw [if_pos z]; exact Nat.lt_succ_self n
        · rw [if_neg z]
          by_cases y : n = 0
          · subst y; exact Nat.lt_succ_self 0
          · have := ih (by omega); omega
    have := this k (by omega)
    omega
theorem lA_lt (A : AS) (k : Nat) : -4 ≤ lA A k ∧ lA A k ≤ 5 := by
  unfold lA
  by_cases q : k = 0
  · rw [if_pos q]; omega
  · rw [if_neg q]; have := amn_le (fK A) k; omega
theorem gK_none {A : AS} {k i : Nat} (h : ¬ fitsN A / 2 ^ i % 2 = 1) : gK A k i = none := if_neg h
theorem gK_some {A : AS} {k i : Nat} (h : fitsN A / 2 ^ i % 2 = 1) : gK A k i = some (does (AL A) i (Lfirst (AL A)) k (AM A).1) := if_pos h
theorem ite1 {p : Prop} {_ : Decidable p} (h : ¬ (if p then (1 : Int) else 0) = 0) : p := Decidable.byContradiction (fun q => h (if_neg q))
theorem ite0 {p : Prop} {_ : Decidable p} (h : (if p then (1 : Int) else 0) = 0) : ¬ p := fun q => by rw [if_pos q] at h; omega

theorem M_ask {E : f_E} {σ : f_Mem} {A : AS} (h : InvM σ A) (ok : ASOK A) {w : Int} (hw : -2147483648 ≤ w ∧ w < 2147483648) : FZ E sM mX8_ask 12 [.ref (f_ad E 0), .int (iI w)] σ (sp_ask A w) (fun u => InvM u A) := by
  have hK1 := ok.K1
  have hK6 := ok.K6
  have hkk : AK A = (Lm (AL A)).length := rfl
  have hrl := ok.L.rl
  have hwl := ok.wl
  have hwo := ok.w
  have h6h := ok.M.2.2
  have hf6 := ok.L.f
  have hs4 := ok.L.s
  refine FZ.intro rfl (Nat.le_of_ble_eq_true rfl) (L0 := [some (.ref (f_ad E 0)), some (.int (iI w)), none, none, none, none, none, none, none, none]) rfl (fun G hR => ?_)
  refine g_iload_1 hR dX8_ask_0 (g_i2l hR dX8_ask_1 (by omega) (g_lconst hR 0 dX8_ask_2 (by decide) (g_lconst hR 1 dX8_ask_3 (by decide) (g_callS3P hR dX8_ask_4 mlX8_78 (C8_in (by omega) (by omega) (by omega)) (by decide) (Nat.le_of_ble_eq_true rfl) (g_if_ne hR 12 dX8_ask_7 (by decide) (by split <;> omega) (fun zc7 => ?_) (fun zc7 => ?_))))))
  · skip
    refine g_aload_0 hR dX8_ask_12 (g_callV0Z hR dX8_ask_13 mlX8_217 (by decide) rfl rfl (M_fits h ok) (by decide) (Nat.le_of_ble_eq_true rfl) (fun zu1 hzu1 => ?_))
    have hI := hzu1
    refine g_istore_2 hR dX8_ask_16 rfl (g_bipush hR dX8_ask_17 (by decide) (g_istore_3 hR dX8_ask_19 rfl (g_bipush hR dX8_ask_20 (by decide) (g_istore_4 hR dX8_ask_22 rfl (g_iconst hR dX8_ask_24 (g_istore_5 hR dX8_ask_25 rfl ?_))))))
    have hfr : -2147483648 ≤ ((fitsN A : Nat) : Int) ∧ ((fitsN A : Nat) : Int) < 2147483648 := by have hb4 := bitsF_lt (fun s => fitB A s (Lfirst (AL A))) 4; have hb5 : fitsN A < 16 := hb4; omega
    by_cases hf0 : fitsN A = 0
    · skip
      refine g_iload_5 hR dX8_ask_27 (g_aload_0 hR dX8_ask_29 (g_getI hR _ dX8_ask_30 flX8_75 (by decide) rfl rfl hI.hd.1 (g_icmp_ge hR 168 dX8_ask_33 (by decide) (by omega) (by omega) (fun zc33 => ?_) (fun zc33 => ?_))))
      · skip
        exact absurd zc33 (by omega)
      · skip
        refine g_iload_2 hR dX8_ask_36 (g_if_le hR 168 dX8_ask_37 (by decide) hfr (fun zc37 => ?_) (fun zc37 => ?_))
        · skip
          refine g_iload_1 hR dX8_ask_168 (g_if_ne hR 176 dX8_ask_169 (by decide) (by omega) (fun zc169 => ?_) (fun zc169 => ?_))
          · skip
            refine g_iload_4 hR dX8_ask_176 ?_
            exact g_iret hR dX8_ask_178 rfl (by unfold sp_ask; rw [if_pos (by omega), if_pos hf0]; skip) hI
          · skip
            refine g_iload_3 hR dX8_ask_172 (g_goto hR 178 dX8_ask_173 (by decide) ?_)
            exact g_iret hR dX8_ask_178 rfl (by unfold sp_ask; rw [if_pos (by omega), if_pos hf0]; skip) hI
        · skip
          unfold sp_fits at zc37
          exact absurd zc37 (by omega)
    · skip
      have loop : ∀ (mm : Nat) (k : Nat), mm = AK A - k → k ≤ AK A → ∀ x6 x7 x8 x9 : Option Value, G 27 [some (.ref (f_ad E 0)), some (.int (iI w)), some (.int (iI (fitsN A : Nat))), some (.int (iI (bA A k))), some (.int (iI (lA A k))), some (.int (iI k)), x6, x7, x8, x9] [] zu1 := by
        intro mm
        induction mm using Nat.strongRecOn with
        | ind mm ih =>
          intro k hm hk x6 x7 x8 x9
          have hb9 := bA_lt A k
          have hl9 := lA_lt A k
          refine g_iload_5 hR dX8_ask_27 (g_aload_0 hR dX8_ask_29 (g_getI hR _ dX8_ask_30 flX8_75 (by decide) rfl rfl hI.hd.1 (g_icmp_ge hR 168 dX8_ask_33 (by decide) (by omega) (by omega) (fun zc33 => ?_) (fun zc33 => ?_))))
          · skip
            refine g_iload_1 hR dX8_ask_168 (g_if_ne hR 176 dX8_ask_169 (by decide) (by omega) (fun zc169 => ?_) (fun zc169 => ?_))
            · skip
              refine g_iload_4 hR dX8_ask_176 ?_
              exact g_iret hR dX8_ask_178 rfl (by unfold sp_ask; rw [if_pos (by omega), if_neg hf0, if_neg (by omega)]; rw [show k = AK A from by omega]; exact if_neg (by omega)) hI
            · skip
              refine g_iload_3 hR dX8_ask_172 (g_goto hR 178 dX8_ask_173 (by decide) ?_)
              exact g_iret hR dX8_ask_178 rfl (by unfold sp_ask; rw [if_pos (by omega), if_neg hf0, if_pos (by omega)]; rw [show k = AK A from by omega]; exact if_neg (by omega)) hI
          · skip
            refine g_iload_2 hR dX8_ask_36 (g_if_le hR 168 dX8_ask_37 (by decide) hfr (fun zc37 => ?_) (fun zc37 => ?_))
            · skip
              exact absurd zc37 (by omega)
            · skip
              refine g_iconst hR dX8_ask_40 (g_istore_6 hR dX8_ask_41 rfl (g_iconst hR dX8_ask_43 (g_istore_7 hR dX8_ask_44 rfl ?_)))
              have loop2 : ∀ (mm2 : Nat) (d : Nat), mm2 = 6 - d → d ≤ 6 → ∀ x8 x9 : Option Value, G 46 [some (.ref (f_ad E 0)), some (.int (iI w)), some (.int (iI (fitsN A : Nat))), some (.int (iI (bA A k))), some (.int (iI (lA A k))), some (.int (iI k)), some (.int (iI (maxN (cntA (gK A k) 4) d : Nat))), some (.int (iI d)), x8, x9] [] zu1 := by
                intro mm2
                induction mm2 using Nat.strongRecOn with
                | ind mm2 ih2 =>
                  intro d hm2 hd x8 x9
                  have hm9 := maxN_le (cntA_le (gK A k) 4) d
                  have hc4 := cntA_le (gK A k) 4 d
                  have hfk := fK_le A k
                  refine g_iload_7 hR dX8_ask_46 (g_bipush hR dX8_ask_48 (by decide) (g_icmp_ge hR 129 dX8_ask_50 (by decide) (by omega) (by omega) (fun zc50 => ?_) (fun zc50 => ?_)))
                  · skip
                    refine g_iload_3 hR dX8_ask_129 (g_if_lt hR 140 dX8_ask_130 (by decide) (by omega) (fun zc130 => ?_) (fun zc130 => ?_))
                    · skip
                      obtain rfl : d = 6 := by omega
                      rw [show maxN (cntA (gK A k) 4) 6 = fK A k from (mx6_maxN _).symm]
                      have hup := ask_up (Or.inl zc130)
                      refine g_iload_5 hR dX8_ask_140 (g_goto hR 146 dX8_ask_142 (by decide) (g_istore_3 hR dX8_ask_146 rfl (g_iload_3 hR dX8_ask_147 (g_iload_5 hR dX8_ask_148 (g_icmp_ne hR 158 dX8_ask_150 (by decide) (by omega) (by omega) (fun zc150 => ?_) (fun zc150 => ?_))))))
                      · skip
                        exact absurd rfl zc150
                      · skip
                        refine g_iload_6 hR dX8_ask_153 (g_goto hR 160 dX8_ask_155 (by decide) (g_istore_4 hR dX8_ask_160 rfl (g_iinc_5 hR dX8_ask_162 rfl (g_goto hR 27 dX8_ask_165 (by decide) ?_))))
                        have h9 := ih (AK A - (k + 1)) (by omega) (k + 1) rfl (by omega)
                        rw [hup.1, hup.2] at h9
                        exact h9 _ _ _ _
                    · skip
                      obtain rfl : d = 6 := by omega
                      rw [show maxN (cntA (gK A k) 4) 6 = fK A k from (mx6_maxN _).symm]
                      
                      refine g_iload_6 hR dX8_ask_133 (g_iload_4 hR dX8_ask_135 (g_icmp_ge hR 145 dX8_ask_137 (by decide) (by omega) (by omega) (fun zc137 => ?_) (fun zc137 => ?_)))
                      · skip
                        have hst := ask_stay (A := A) (k := k) (by omega) (by omega)
                        refine g_iload_3 hR dX8_ask_145 (g_istore_3 hR dX8_ask_146 rfl (g_iload_3 hR dX8_ask_147 (g_iload_5 hR dX8_ask_148 (g_icmp_ne hR 158 dX8_ask_150 (by decide) (by omega) (by omega) (fun zc150 => ?_) (fun zc150 => ?_)))))
                        · skip
                          refine g_iload_4 hR dX8_ask_158 (g_istore_4 hR dX8_ask_160 rfl (g_iinc_5 hR dX8_ask_162 rfl (g_goto hR 27 dX8_ask_165 (by decide) ?_)))
                          have h9 := ih (AK A - (k + 1)) (by omega) (k + 1) rfl (by omega)
                          rw [hst.1, hst.2] at h9
                          exact h9 _ _ _ _
                        · skip
                          exact absurd zc150 (by omega)
                      · skip
                        have hup := ask_up (A := A) (k := k) (Or.inr (by omega))
                        refine g_iload_5 hR dX8_ask_140 (g_goto hR 146 dX8_ask_142 (by decide) (g_istore_3 hR dX8_ask_146 rfl (g_iload_3 hR dX8_ask_147 (g_iload_5 hR dX8_ask_148 (g_icmp_ne hR 158 dX8_ask_150 (by decide) (by omega) (by omega) (fun zc150 => ?_) (fun zc150 => ?_))))))
                        · skip
                          exact absurd rfl zc150
                        · skip
                          refine g_iload_6 hR dX8_ask_153 (g_goto hR 160 dX8_ask_155 (by decide) (g_istore_4 hR dX8_ask_160 rfl (g_iinc_5 hR dX8_ask_162 rfl (g_goto hR 27 dX8_ask_165 (by decide) ?_))))
                          have h9 := ih (AK A - (k + 1)) (by omega) (k + 1) rfl (by omega)
                          rw [hup.1, hup.2] at h9
                          exact h9 _ _ _ _
                  · skip
                    refine g_iconst hR dX8_ask_53 (g_istore_8 hR dX8_ask_54 rfl (g_iconst hR dX8_ask_56 (g_istore_9 hR dX8_ask_57 rfl ?_)))
                    have loop3 : ∀ (mm3 : Nat) (i : Nat), mm3 = 4 - i → i ≤ 4 → G 59 [some (.ref (f_ad E 0)), some (.int (iI w)), some (.int (iI (fitsN A : Nat))), some (.int (iI (bA A k))), some (.int (iI (lA A k))), some (.int (iI k)), some (.int (iI (maxN (cntA (gK A k) 4) d : Nat))), some (.int (iI d)), some (.int (iI (cntA (gK A k) i d : Nat))), some (.int (iI i))] [] zu1 := by
                      intro mm3
                      induction mm3 using Nat.strongRecOn with
                      | ind mm3 ih3 =>
                        intro i hm3 hi
                        have hc3 := cntA_le (gK A k) i d
                        have hb4 := bitsF_lt (fun s => fitB A s (Lfirst (AL A))) 4
                        have hb5 : fitsN A < 16 := hb4
                        refine g_iload_9 hR dX8_ask_59 (g_iconst hR dX8_ask_61 (g_icmp_ge hR 107 dX8_ask_62 (by decide) (by omega) (by omega) (fun zc62 => ?_) (fun zc62 => ?_)))
                        · skip
                          refine g_iload_8 hR dX8_ask_107 (g_iload_6 hR dX8_ask_109 (g_icmp_le hR 119 dX8_ask_111 (by decide) (by omega) (by omega) (fun zc111 => ?_) (fun zc111 => ?_)))
                          · skip
                            refine g_iload_6 hR dX8_ask_119 (g_istore_6 hR dX8_ask_121 rfl (g_iinc_7 hR dX8_ask_123 rfl (g_goto hR 46 dX8_ask_126 (by decide) ?_)))
                            obtain rfl : i = 4 := by omega
                            have h9 := ih2 (6 - (d + 1)) (by omega) (d + 1) rfl (by omega)
                            rw [show maxN (cntA (gK A k) 4) (d + 1) = maxN (cntA (gK A k) 4) d from by show max _ _ = _; omega] at h9
                            exact h9 _ _
                          · skip
                            refine g_iload_8 hR dX8_ask_114 (g_goto hR 121 dX8_ask_116 (by decide) (g_istore_6 hR dX8_ask_121 rfl (g_iinc_7 hR dX8_ask_123 rfl (g_goto hR 46 dX8_ask_126 (by decide) ?_))))
                            obtain rfl : i = 4 := by omega
                            have h9 := ih2 (6 - (d + 1)) (by omega) (d + 1) rfl (by omega)
                            rw [show maxN (cntA (gK A k) 4) (d + 1) = cntA (gK A k) 4 d from by show max _ _ = _; omega] at h9
                            exact h9 _ _
                        · skip
                          refine g_iload_8 hR dX8_ask_65 (g_iload_2 hR dX8_ask_67 (g_iload_9 hR dX8_ask_68 (g_callS2P hR dX8_ask_70 mlX8_162 (C8_has (m := fitsN A) (k := i) (by omega) (by omega)) (by decide) (Nat.le_of_ble_eq_true rfl) (g_if_eq hR 97 dX8_ask_73 (by decide) (by split <;> omega) (fun zc73 => ?_) (fun zc73 => ?_)))))
                          · skip
                            refine g_iconst hR dX8_ask_97 (g_iadd hR dX8_ask_98 (g_istore_8 hR dX8_ask_99 rfl (g_iinc_9 hR dX8_ask_101 rfl (g_goto hR 59 dX8_ask_104 (by decide) ?_))))
                            have e9 : ((cntA (gK A k) (i + 1) d : Nat) : Int) = (cntA (gK A k) i d : Nat) + 0 := by rw [cntA_none (gK_none (ite0 zc73))]; omega
                            have h9 := ih3 (4 - (i + 1)) (by omega) (i + 1) rfl (by omega)
                            rw [e9] at h9
                            exact h9
                          · skip
                            refine g_aload_0 hR dX8_ask_76 (g_iload_9 hR dX8_ask_77 (g_aload_0 hR dX8_ask_79 (g_getI hR _ dX8_ask_80 flX8_139 (by decide) rfl rfl hI.hd.2.2 (g_iload_5 hR dX8_ask_83 (g_callV3P hR dX8_ask_85 mlX8_166 (by decide) rfl rfl (C8_doesBy hI.st hI.ls ok.L hwo (s := i) (k := k) (by omega) hf6 (by omega)) (by decide) (Nat.le_of_ble_eq_true rfl) (g_iload_7 hR dX8_ask_88 (g_icmp_ne hR 97 dX8_ask_90 (by decide) (by have := does_lt (AL A) i hf6 k (AM A).1; omega) (by omega) (fun zc90 => ?_) (fun zc90 => ?_))))))))
                            · skip
                              refine g_iconst hR dX8_ask_97 (g_iadd hR dX8_ask_98 (g_istore_8 hR dX8_ask_99 rfl (g_iinc_9 hR dX8_ask_101 rfl (g_goto hR 59 dX8_ask_104 (by decide) ?_))))
                              have e9 : ((cntA (gK A k) (i + 1) d : Nat) : Int) = (cntA (gK A k) i d : Nat) + 0 := by rw [cntA_some (gK_some (ite1 zc73)), if_neg (by omega)]; omega
                              have h9 := ih3 (4 - (i + 1)) (by omega) (i + 1) rfl (by omega)
                              rw [e9] at h9
                              exact h9
                            · skip
                              refine g_iconst hR dX8_ask_93 (g_goto hR 98 dX8_ask_94 (by decide) (g_iadd hR dX8_ask_98 (g_istore_8 hR dX8_ask_99 rfl (g_iinc_9 hR dX8_ask_101 rfl (g_goto hR 59 dX8_ask_104 (by decide) ?_)))))
                              have e9 : ((cntA (gK A k) (i + 1) d : Nat) : Int) = (cntA (gK A k) i d : Nat) + 1 := by rw [cntA_some (gK_some (ite1 zc73)), if_pos (by omega), show d = does (AL A) i (Lfirst (AL A)) k (AM A).1 from by omega]; rfl
                              have h9 := ih3 (4 - (i + 1)) (by omega) (i + 1) rfl (by omega)
                              rw [e9] at h9
                              exact h9
                    exact loop3 4 0 (by omega) (by omega)
              exact loop2 6 0 (by omega) (by omega) _ _
      exact loop (AK A) 0 (by omega) (by omega) _ _ _ _
  · skip
    refine g_iconst hR dX8_ask_10 ?_
    exact g_iret hR dX8_ask_11 rfl (by unfold sp_ask; rw [if_neg (by omega)]; skip) h
theorem C8_holds {E : f_E} {σ : f_Mem} {L : Les} (h : LsM σ 1 L) (ok : LesOK L) {k m : Nat} (hk : k < (Lm L).length) (hm : m < 32) : FZ E sM mX8_holds 0 [.ref (f_ad E 0), .int (iI m), .int (iI k)] σ (if (Lm L).getD k 0 &&& m = m then 1 else 0) (fun u => u = σ) := by
  have hK6 := ok.k
  refine FZ.intro rfl (Nat.le_of_ble_eq_true rfl) (L0 := [some (.ref (f_ad E 0)), some (.int (iI m)), some (.int (iI k))]) rfl (fun G hR => ?_)
  refine g_aload_0 hR dX8_holds_0 (g_getR hR dX8_holds_1 flX8_7 (by decide) rfl rfl (g_iconst hR dX8_holds_4 (g_iload_2 hR dX8_holds_5 (g_imul hR dX8_holds_6 (g_aldU hR _ dX8_holds_7 (by decide) rfl (by decide) (by omega) (h k hk).1 (by omega) (g_iload_1 hR dX8_holds_8 (g_iand hR dX8_holds_9 (g_iload_1 hR dX8_holds_10 (g_icmp_ne hR 18 dX8_holds_11 (by decide) (by have := Nat.and_le_right (n := (Lm L).getD k 0) (m := m); omega) (by omega) (fun zc11 => ?_) (fun zc11 => ?_))))))))))
  · skip
    refine g_iconst hR dX8_holds_18 ?_
    exact g_zret hR dX8_holds_19 rfl (Or.inl rfl) (by rw [if_neg (fun q => by omega)]) rfl
  · skip
    refine g_iconst hR dX8_holds_14 (g_goto hR 19 dX8_holds_15 (by decide) ?_)
    exact g_zret hR dX8_holds_19 rfl (Or.inr rfl) (by rw [if_pos (by omega)]) rfl

theorem seekP_neg (c : Nat → Bool) : ∀ n p, seekP c n p = -4 ↔ ∀ i, i < n → c (p + i) = false
  | 0, p => ⟨fun _ i hi => absurd hi (by omega), fun _ => rfl⟩
  | n + 1, p => by
    have ih := seekP_neg c n (p + 1)
    constructor
    · intro h i hi
      by_cases q : c p = true
      · rw [seekP_yes (by omega) q] at h; omega
      · have q2 : c p = false := Bool.not_eq_true _ ▸ q
        rw [seekP_no (by omega) q2] at h
        by_cases e : i = 0
        · subst e; exact q2
        · have := ih.mp h (i - 1) (by omega)
          rwa [show p + 1 + (i - 1) = p + i from by omega] at this
    · intro h
      have h0 := h 0 (by omega)
      rw [Nat.add_zero] at h0
      rw [seekP_no (by omega) h0]
      exact ih.mpr (fun i hi => by have := h (i + 1) (by omega); rwa [show p + (i + 1) = p + 1 + i from by omega] at this)
def rgJ (L : Les) (d m j : Nat) : Bool := (List.range j).all (fun k => decide ((Lm L).getD k 0 &&& m = m ↔ (Lr L).getD k 0 = d))
theorem rgJ_succ (L : Les) (d m j : Nat) : rgJ L d m (j + 1) = (rgJ L d m j && decide ((Lm L).getD j 0 &&& m = m ↔ (Lr L).getD j 0 = d)) := by
  unfold rgJ
  rw [List.range_succ, List.all_append]
  simp
theorem rgJ_all (L : Les) (d m : Nat) : rgJ L d m (Lm L).length = ruC L d m := by
  rw [Bool.eq_iff_iff]
  unfold rgJ ruC
  rw [Bool.and_eq_true, decide_eq_true_eq, decide_eq_true_eq, seekP_neg, seekP_neg, List.all_eq_true]
  constructor
  · intro h
    refine ⟨fun i hi => ?_, fun i hi => ?_⟩
    · have h2 := of_decide_eq_true (h i (List.mem_range.mpr hi))
      rw [Nat.zero_add]
      by_cases q : (Lm L).getD i 0 &&& m = m
      · exact (wrC_of (decide_eq_true q) (decide_eq_true (h2.mp q))).trans rfl
      · exact (wrC_of (decide_eq_false q) rfl).trans rfl
    · have h2 := of_decide_eq_true (h i (List.mem_range.mpr hi))
      rw [Nat.zero_add]
      by_cases q : (Lr L).getD i 0 = d
      · exact (wrC_of (decide_eq_true (h2.mpr q)) (decide_eq_true q)).trans rfl
      · exact (wrC_of rfl (decide_eq_false q)).trans rfl
  · rintro ⟨h1, h2⟩ i hi
    have hi := List.mem_range.mp hi
    have h1 := h1 i hi
    have h2 := h2 i hi
    rw [Nat.zero_add] at h1 h2
    refine decide_eq_true ⟨fun q => ?_, fun q => ?_⟩
    · refine Decidable.byContradiction (fun z => ?_)
      rw [wrC_of (decide_eq_true q) (decide_eq_false z)] at h1
      cases h1
    · refine Decidable.byContradiction (fun z => ?_)
      rw [wrC_of (decide_eq_false z) (decide_eq_true q)] at h2
      cases h2
theorem ruF_inv (c : Nat → Bool) : ∀ n, ((ruF c n).1 = -4 ∧ (ruF c n).2 = 1000000) ∨ ∃ m : Nat, m < n ∧ (ruF c n).1 = m ∧ (ruF c n).2 = pc5 m
  | 0 => Or.inl ⟨rfl, rfl⟩
  | n + 1 => by
    unfold ruF
    split
    · exact Or.inr ⟨n, Nat.lt_succ_self n, rfl, rfl⟩
    · rcases ruF_inv c n with h | ⟨m, h1, h2⟩
      · exact Or.inl h
      · exact Or.inr ⟨m, by omega, h2⟩
theorem ruF_up {c : Nat → Bool} {n : Nat} (h : pc5 n < (ruF c n).2) (h2 : c n = true) : (ruF c (n + 1)).1 = n := by unfold ruF; rw [if_pos ⟨h, h2⟩]
theorem ruF_no {c : Nat → Bool} {n : Nat} (h : ¬ (pc5 n < (ruF c n).2 ∧ c n = true)) : (ruF c (n + 1)).1 = (ruF c n).1 := by
  show (if pc5 n < (ruF c n).2 ∧ c n = true then ((n : Int), pc5 n) else ruF c n).1 = _
  rw [if_neg h]

theorem M_rule {E : f_E} {σ : f_Mem} {A : AS} (h : InvM σ A) (ok : ASOK A) {d : Int} (hd : -2147483648 ≤ d ∧ d < 2147483648) : FZ E sM mX8_rule 12 [.ref (f_ad E 0), .int (iI d)] σ (sp_rule A d) (fun u => InvM u A) := by
  have hK1 := ok.K1
  have hK6 := ok.K6
  have hkk : AK A = (Lm (AL A)).length := rfl
  have hrl := ok.L.rl
  have hwl := ok.wl
  have hwo := ok.w
  have h6h := ok.M.2.2
  have hf6 := ok.L.f
  have hs4 := ok.L.s
  refine FZ.intro rfl (Nat.le_of_ble_eq_true rfl) (L0 := [some (.ref (f_ad E 0)), some (.int (iI d)), none, none, none, none]) rfl (fun G hR => ?_)
  refine g_iload_1 hR dX8_rule_0 (g_callS1P hR dX8_rule_1 mlX8_103 (C8_isDoing hd) (by decide) (Nat.le_of_ble_eq_true rfl) (g_if_ne hR 9 dX8_rule_4 (by decide) (by split <;> omega) (fun zc4 => ?_) (fun zc4 => ?_)))
  · skip
    obtain ⟨dq, rfl⟩ : ∃ dq : Nat, d = dq := ⟨d.toNat, by omega⟩
    refine g_bipush hR dX8_rule_9 (by decide) (g_istore_2 hR dX8_rule_11 rfl (g_iconst hR dX8_rule_12 (g_istore_3 hR dX8_rule_13 rfl ?_)))
    have loop : ∀ (mm : Nat) (m : Nat), mm = 32 - m → m ≤ 32 → ∀ x4 x5 : Option Value, G 14 [some (.ref (f_ad E 0)), some (.int (iI dq)), some (.int (iI (ruF (ruC (AL A) dq) m).1)), some (.int (iI m)), x4, x5] [] σ := by
      intro mm
      induction mm using Nat.strongRecOn with
      | ind mm ih =>
        intro m hm hm32 x4 x5
        refine g_iload_3 hR dX8_rule_14 (g_bipush hR dX8_rule_15 (by decide) (g_icmp_ge hR 115 dX8_rule_17 (by decide) (by omega) (by omega) (fun zc17 => ?_) (fun zc17 => ?_)))
        · skip
          refine g_iload_2 hR dX8_rule_115 ?_
          obtain rfl : m = 32 := by omega
          exact g_iret hR dX8_rule_116 rfl (by unfold sp_rule; rw [if_pos (by omega)]; rfl) h
        · skip
          refine g_iconst hR dX8_rule_20 (g_istore_4 hR dX8_rule_21 rfl (g_iconst hR dX8_rule_23 (g_istore_5 hR dX8_rule_24 rfl ?_)))
          have loop2 : ∀ (mm2 : Nat) (j : Nat), mm2 = AK A - j → j ≤ AK A → G 26 [some (.ref (f_ad E 0)), some (.int (iI dq)), some (.int (iI (ruF (ruC (AL A) dq) m).1)), some (.int (iI m)), some (.int (iI (if rgJ (AL A) dq m j = true then (1 : Int) else 0))), some (.int (iI j))] [] σ := by
            intro mm2
            induction mm2 using Nat.strongRecOn with
            | ind mm2 ih2 =>
              intro j hm2 hj
              refine g_iload_5 hR dX8_rule_26 (g_aload_0 hR dX8_rule_28 (g_getI hR _ dX8_rule_29 flX8_75 (by decide) rfl rfl h.hd.1 (g_icmp_ge hR 83 dX8_rule_32 (by decide) (by omega) (by omega) (fun zc32 => ?_) (fun zc32 => ?_))))
              · skip
                refine g_iload_4 hR dX8_rule_83 (g_if_eq hR 107 dX8_rule_85 (by decide) (by split <;> omega) (fun zc85 => ?_) (fun zc85 => ?_))
                · skip
                  refine g_iload_2 hR dX8_rule_107 (g_istore_2 hR dX8_rule_108 rfl (g_iinc_3 hR dX8_rule_109 rfl (g_goto hR 14 dX8_rule_112 (by decide) ?_)))
                  have ej : j = (Lm (AL A)).length := by omega
                  rw [ej, rgJ_all] at zc85
                  have h9 := ih (32 - (m + 1)) (by omega) (m + 1) rfl (by omega)
                  rw [ruF_no (fun q => by rw [ifB zc85] at q; exact absurd q.2 (by decide))] at h9
                  exact h9 _ _
                · skip
                  have ej : j = (Lm (AL A)).length := by omega
                  rw [ej, rgJ_all] at zc85
                  have ec := ifB1 zc85
                  rcases ruF_inv (ruC (AL A) dq) m with ⟨g1, g2⟩ | ⟨q0, hq0, g1, g2⟩
                  · skip
                    refine g_iload_2 hR dX8_rule_88 (g_if_lt hR 103 dX8_rule_89 (by decide) (by omega) (fun zc89 => ?_) (fun zc89 => ?_))
                    · skip
                      refine g_iload_3 hR dX8_rule_103 (g_goto hR 108 dX8_rule_104 (by decide) (g_istore_2 hR dX8_rule_108 rfl (g_iinc_3 hR dX8_rule_109 rfl (g_goto hR 14 dX8_rule_112 (by decide) ?_))))
                      have h9 := ih (32 - (m + 1)) (by omega) (m + 1) rfl (by omega)
                      rw [ruF_up (by have := pc5_le m; omega) ec] at h9
                      exact h9 _ _
                    · skip
                      exact absurd zc89 (by omega)
                  · skip
                    refine g_iload_2 hR dX8_rule_88 (g_if_lt hR 103 dX8_rule_89 (by decide) (by omega) (fun zc89 => ?_) (fun zc89 => ?_))
                    · skip
                      exact absurd zc89 (by omega)
                    · skip
                      rw [g1]
                      refine g_iload_3 hR dX8_rule_92 (g_callS1P hR dX8_rule_93 mlX8_154 (C8_ones (n := m) (by omega)) (by decide) (Nat.le_of_ble_eq_true rfl) (g_iload_2 hR dX8_rule_96 (g_callS1P hR dX8_rule_97 mlX8_154 (C8_ones (n := q0) (by omega)) (by decide) (Nat.le_of_ble_eq_true rfl) (g_icmp_ge hR 107 dX8_rule_100 (by decide) (by have := pc5_le m; omega) (by have := pc5_le q0; omega) (fun zc100 => ?_) (fun zc100 => ?_)))))
                      · skip
                        refine g_iload_2 hR dX8_rule_107 (g_istore_2 hR dX8_rule_108 rfl (g_iinc_3 hR dX8_rule_109 rfl (g_goto hR 14 dX8_rule_112 (by decide) ?_)))
                        have h9 := ih (32 - (m + 1)) (by omega) (m + 1) rfl (by omega)
                        rw [ruF_no (by omega), g1] at h9
                        exact h9 _ _
                      · skip
                        refine g_iload_3 hR dX8_rule_103 (g_goto hR 108 dX8_rule_104 (by decide) (g_istore_2 hR dX8_rule_108 rfl (g_iinc_3 hR dX8_rule_109 rfl (g_goto hR 14 dX8_rule_112 (by decide) ?_))))
                        have h9 := ih (32 - (m + 1)) (by omega) (m + 1) rfl (by omega)
                        rw [ruF_up (by omega) ec] at h9
                        exact h9 _ _
              · skip
                refine g_iload_4 hR dX8_rule_35 (g_if_eq hR 74 dX8_rule_37 (by decide) (by split <;> omega) (fun zc37 => ?_) (fun zc37 => ?_))
                · skip
                  refine g_iconst hR dX8_rule_74 (g_istore_4 hR dX8_rule_75 rfl (g_iinc_5 hR dX8_rule_77 rfl (g_goto hR 26 dX8_rule_80 (by decide) ?_)))
                  have e9 : rgJ (AL A) dq m (j + 1) = false := by rw [rgJ_succ]; rw [ifB zc37]; rfl
                  have h9 := ih2 (AK A - (j + 1)) (by omega) (j + 1) rfl (by omega)
                  rw [e9] at h9
                  exact h9
                · skip
                  refine g_aload_0 hR dX8_rule_40 (g_iload_3 hR dX8_rule_41 (g_iload_5 hR dX8_rule_42 (g_callV2P hR dX8_rule_44 mlX8_220 (by decide) rfl rfl (C8_holds h.ls ok.L (k := j) (m := m) (by omega) (by omega)) (by decide) (Nat.le_of_ble_eq_true rfl) (g_aload_0 hR dX8_rule_47 (g_getR hR dX8_rule_48 flX8_7 (by decide) rfl rfl (g_iconst hR dX8_rule_51 (g_iload_5 hR dX8_rule_52 (g_imul hR dX8_rule_54 (g_iconst hR dX8_rule_55 (g_iadd hR dX8_rule_56 (g_aldU hR _ dX8_rule_57 (by decide) rfl (by decide) (by omega) (h.ls j (by omega)).2.1 (by omega) (g_iload_1 hR dX8_rule_58 (g_icmp_ne hR 66 dX8_rule_59 (by decide) (by have := ok.L.r j; omega) (by omega) (fun zc59 => ?_) (fun zc59 => ?_))))))))))))))
                  · skip
                    refine g_iconst hR dX8_rule_66 (g_icmp_ne hR 74 dX8_rule_67 (by decide) (by split <;> omega) (by omega) (fun zc67 => ?_) (fun zc67 => ?_))
                    · skip
                      refine g_iconst hR dX8_rule_74 (g_istore_4 hR dX8_rule_75 rfl (g_iinc_5 hR dX8_rule_77 rfl (g_goto hR 26 dX8_rule_80 (by decide) ?_)))
                      have e9 : rgJ (AL A) dq m (j + 1) = false := by rw [rgJ_succ]; rw [decide_eq_false (fun q => absurd (q.mp (ite1 zc67)) (by omega)), Bool.and_false]
                      have h9 := ih2 (AK A - (j + 1)) (by omega) (j + 1) rfl (by omega)
                      rw [e9] at h9
                      exact h9
                    · skip
                      refine g_iconst hR dX8_rule_70 (g_goto hR 75 dX8_rule_71 (by decide) (g_istore_4 hR dX8_rule_75 rfl (g_iinc_5 hR dX8_rule_77 rfl (g_goto hR 26 dX8_rule_80 (by decide) ?_))))
                      have e9 : rgJ (AL A) dq m (j + 1) = true := by rw [rgJ_succ, ifB1 zc37, decide_eq_true (show _ ↔ _ from ⟨fun q => absurd q (ite0 (by omega)), fun q => absurd q (by omega)⟩)]; rfl
                      have h9 := ih2 (AK A - (j + 1)) (by omega) (j + 1) rfl (by omega)
                      rw [e9] at h9
                      exact h9
                  · skip
                    refine g_iconst hR dX8_rule_62 (g_goto hR 67 dX8_rule_63 (by decide) (g_icmp_ne hR 74 dX8_rule_67 (by decide) (by split <;> omega) (by omega) (fun zc67 => ?_) (fun zc67 => ?_)))
                    · skip
                      refine g_iconst hR dX8_rule_74 (g_istore_4 hR dX8_rule_75 rfl (g_iinc_5 hR dX8_rule_77 rfl (g_goto hR 26 dX8_rule_80 (by decide) ?_)))
                      have e9 : rgJ (AL A) dq m (j + 1) = false := by rw [rgJ_succ]; rw [decide_eq_false (fun q => zc67 (if_pos (q.mpr (by omega)))), Bool.and_false]
                      have h9 := ih2 (AK A - (j + 1)) (by omega) (j + 1) rfl (by omega)
                      rw [e9] at h9
                      exact h9
                    · skip
                      refine g_iconst hR dX8_rule_70 (g_goto hR 75 dX8_rule_71 (by decide) (g_istore_4 hR dX8_rule_75 rfl (g_iinc_5 hR dX8_rule_77 rfl (g_goto hR 26 dX8_rule_80 (by decide) ?_))))
                      have e9 : rgJ (AL A) dq m (j + 1) = true := by rw [rgJ_succ, ifB1 zc37, decide_eq_true (show _ ↔ _ from ⟨fun _ => by omega, fun _ => ite1 (by omega)⟩)]; rfl
                      have h9 := ih2 (AK A - (j + 1)) (by omega) (j + 1) rfl (by omega)
                      rw [e9] at h9
                      exact h9
          exact loop2 (AK A) 0 (by omega) (by omega)
    exact loop 32 0 (by omega) (by omega) _ _
  · skip
    refine g_iconst hR dX8_rule_7 ?_
    exact g_iret hR dX8_rule_8 rfl (by unfold sp_rule; rw [if_neg (by omega)]; skip) h
theorem M_wrong {E : f_E} {σ : f_Mem} {A : AS} (h : InvM σ A) (ok : ASOK A) {d m b : Int} (hd : -2147483648 ≤ d ∧ d < 2147483648) (hm : -2147483648 ≤ m ∧ m < 2147483648) (hb : b = 0 ∨ b = 1) : FZ E sM mX8_wrong 12 [.ref (f_ad E 0), .int (iI d), .int (iI m), .int (iI b)] σ (sp_wrong A d m b) (fun u => InvM u A) := by
  have hK1 := ok.K1
  have hK6 := ok.K6
  have hkk : AK A = (Lm (AL A)).length := rfl
  have hrl := ok.L.rl
  have hwl := ok.wl
  have hwo := ok.w
  have h6h := ok.M.2.2
  have hf6 := ok.L.f
  have hs4 := ok.L.s
  refine FZ.intro rfl (Nat.le_of_ble_eq_true rfl) (L0 := [some (.ref (f_ad E 0)), some (.int (iI d)), some (.int (iI m)), some (.int (iI b)), none, none, none, none]) rfl (fun G hR => ?_)
  refine g_iload_1 hR dX8_wrong_0 (g_callS1P hR dX8_wrong_1 mlX8_103 (C8_isDoing hd) (by decide) (Nat.le_of_ble_eq_true rfl) (g_if_eq hR 19 dX8_wrong_4 (by decide) (by split <;> omega) (fun zc4 => ?_) (fun zc4 => ?_)))
  · skip
    refine g_iconst hR dX8_wrong_19 ?_
    exact g_iret hR dX8_wrong_20 rfl (by unfold sp_wrong; rw [if_neg (by omega)]; skip) h
  · skip
    refine g_iload_2 hR dX8_wrong_7 (g_i2l hR dX8_wrong_8 (by omega) (g_lconst hR 0 dX8_wrong_9 (by decide) (g_ldc2 hR (31) dX8_wrong_10 kcX8_101 (by decide) (g_callS3P hR dX8_wrong_13 mlX8_78 (C8_in (by omega) (by omega) (by omega)) (by decide) (Nat.le_of_ble_eq_true rfl) (g_if_ne hR 21 dX8_wrong_16 (by decide) (by split <;> omega) (fun zc16 => ?_) (fun zc16 => ?_))))))
    · skip
      obtain ⟨dq, rfl⟩ : ∃ dq : Nat, d = dq := ⟨d.toNat, by omega⟩
      obtain ⟨mq, rfl⟩ : ∃ mq : Nat, m = mq := ⟨m.toNat, by omega⟩
      refine g_bipush hR dX8_wrong_21 (by decide) (g_istore_4 hR dX8_wrong_23 rfl (g_aload_0 hR dX8_wrong_25 (g_getI hR _ dX8_wrong_26 flX8_75 (by decide) rfl rfl h.hd.1 (g_iconst hR dX8_wrong_29 (g_isub hR dX8_wrong_30 (g_istore_5 hR dX8_wrong_31 rfl ?_))))))
      rcases hb with rfl | rfl
      · skip
        have loop : ∀ (mm : Nat) (p : Nat), mm = p → p ≤ AK A → ∀ x6 x7 : Option Value, G 33 [some (.ref (f_ad E 0)), some (.int (iI dq)), some (.int (iI mq)), some (.int (iI 0)), some (.int (iI (seekP (wrC (AL A) dq mq (decide ((0 : Int) ≠ 0))) (AK A - p) p))), some (.int (iI ((p : Int) - 1))), x6, x7] [] σ := by
          intro mm
          induction mm using Nat.strongRecOn with
          | ind mm ih =>
            intro p hm hp x6 x7
            refine g_iload_5 hR dX8_wrong_33 (g_if_lt hR 129 dX8_wrong_35 (by decide) (by omega) (fun zc35 => ?_) (fun zc35 => ?_))
            · skip
              refine g_iload_4 hR dX8_wrong_129 ?_
              obtain rfl : p = 0 := by omega
              exact g_iret hR dX8_wrong_131 rfl (by unfold sp_wrong; rw [if_pos (by omega)]; rfl) h
            · skip
              have hp1 : (p : Int) - 1 = ((p - 1 : Nat) : Int) := by omega
              have k107 : ∀ (x6 : Int) (x7 : Option Value) (v : Int), v = (if wrC (AL A) dq mq (decide ((0 : Int) ≠ 0)) (p - 1) = true then 1 else 0) → G 107 [some (.ref (f_ad E 0)), some (.int (iI dq)), some (.int (iI mq)), some (.int (iI 0)), some (.int (iI (seekP (wrC (AL A) dq mq (decide ((0 : Int) ≠ 0))) (AK A - p) p))), some (.int (iI ((p : Int) - 1))), some (.int (iI x6)), x7] [.int (iI v)] σ := by
                intro x6 x7 v hv
                refine g_istore_7 hR dX8_wrong_107 rfl (g_iload_7 hR dX8_wrong_109 (g_if_eq hR 119 dX8_wrong_111 (by decide) (by rw [hv]; split <;> omega) (fun zc111 => ?_) (fun zc111 => ?_)))
                · skip
                  refine g_iload_4 hR dX8_wrong_119 (g_istore_4 hR dX8_wrong_121 rfl (g_iinc_5 hR dX8_wrong_123 rfl (g_goto hR 33 dX8_wrong_126 (by decide) ?_)))
                  have h9 := ih (p - 1) (by omega) (p - 1) rfl (by omega)
                  rw [seekP_no (by omega) (ifB (hv ▸ zc111)), show AK A - (p - 1) - 1 = AK A - p from by omega, show p - 1 + 1 = p from by omega, show (((p - 1 : Nat) : Int) - 1) = (p : Int) - 1 + -1 from by omega] at h9
                  exact h9 _ _
                · skip
                  refine g_iload_5 hR dX8_wrong_114 (g_goto hR 121 dX8_wrong_116 (by decide) (g_istore_4 hR dX8_wrong_121 rfl (g_iinc_5 hR dX8_wrong_123 rfl (g_goto hR 33 dX8_wrong_126 (by decide) ?_))))
                  have h9 := ih (p - 1) (by omega) (p - 1) rfl (by omega)
                  rw [seekP_yes (by omega) (ifB1 (hv ▸ zc111)), show (((p - 1 : Nat) : Int) - 1) = (p : Int) - 1 + -1 from by omega, show ((p - 1 : Nat) : Int) = (p : Int) - 1 from by omega] at h9
                  exact h9 _ _
              refine g_aload_0 hR dX8_wrong_38 (g_getR hR dX8_wrong_39 flX8_7 (by decide) rfl rfl (g_iconst hR dX8_wrong_42 (g_iload_5 hR dX8_wrong_43 (g_imul hR dX8_wrong_45 (g_iconst hR dX8_wrong_46 (g_iadd hR dX8_wrong_47 (g_aldU hR _ dX8_wrong_48 (by decide) rfl (by decide) (by omega) (h.ls (p - 1) (by omega)).2.1 (by omega) (g_iload_1 hR dX8_wrong_49 (g_icmp_ne hR 57 dX8_wrong_50 (by decide) (by have := ok.L.r (p - 1); omega) (by omega) (fun zc50 => ?_) (fun zc50 => ?_))))))))))
              · skip
                refine g_iconst hR dX8_wrong_57 (g_istore_6 hR dX8_wrong_58 rfl (g_iload_3 hR dX8_wrong_60 (g_if_eq hR 87 dX8_wrong_61 (by decide) (by omega) (fun zc61 => ?_) (fun zc61 => ?_))))
                · skip
                  refine g_iload_6 hR dX8_wrong_87 (g_if_ne hR 106 dX8_wrong_89 (by decide) (by omega) (fun zc89 => ?_) (fun zc89 => ?_))
                  · skip
                    exact absurd zc89 (by omega)
                  · skip
                    refine g_aload_0 hR dX8_wrong_92 (g_iload_2 hR dX8_wrong_93 (g_iload_5 hR dX8_wrong_94 ?_))
                    rw [hp1]
                    refine g_callV2P hR dX8_wrong_96 mlX8_220 (by decide) rfl rfl (C8_holds h.ls ok.L (k := p - 1) (m := mq) (by omega) (by omega)) (by decide) (Nat.le_of_ble_eq_true rfl) ?_
                    rw [← hp1]
                    refine g_if_eq hR 106 dX8_wrong_99 (by decide) (by split <;> omega) (fun zc99 => ?_) (fun zc99 => ?_)
                    · skip
                      refine g_iconst hR dX8_wrong_106 ?_
                      exact k107 _ _ 0 (by rw [show wrC (AL A) dq mq (decide ((0 : Int) ≠ 0)) (p - 1) = false from (wrC_of (decide_eq_false (ite0 zc99)) rfl).trans rfl]; first | done | rfl)
                    · skip
                      refine g_iconst hR dX8_wrong_102 (g_goto hR 107 dX8_wrong_103 (by decide) ?_)
                      exact k107 _ _ 1 (by rw [show wrC (AL A) dq mq (decide ((0 : Int) ≠ 0)) (p - 1) = true from (wrC_of (decide_eq_true (ite1 zc99)) (decide_eq_false (show ¬ (Lr (AL A)).getD (p - 1) 0 = dq from by omega))).trans rfl]; first | done | rfl)
                · skip
                  exact absurd zc61 (by omega)
              · skip
                refine g_iconst hR dX8_wrong_53 (g_goto hR 58 dX8_wrong_54 (by decide) (g_istore_6 hR dX8_wrong_58 rfl (g_iload_3 hR dX8_wrong_60 (g_if_eq hR 87 dX8_wrong_61 (by decide) (by omega) (fun zc61 => ?_) (fun zc61 => ?_)))))
                · skip
                  refine g_iload_6 hR dX8_wrong_87 (g_if_ne hR 106 dX8_wrong_89 (by decide) (by omega) (fun zc89 => ?_) (fun zc89 => ?_))
                  · skip
                    refine g_iconst hR dX8_wrong_106 ?_
                    exact k107 _ _ 0 (by rw [show wrC (AL A) dq mq (decide ((0 : Int) ≠ 0)) (p - 1) = false from (wrC_of (H := decide _) rfl (decide_eq_true (show (Lr (AL A)).getD (p - 1) 0 = dq from by omega))).trans (by cases (decide ((Lm (AL A)).getD (p - 1) 0 &&& mq = mq)) <;> rfl)]; first | done | rfl)
                  · skip
                    exact absurd zc89 (by omega)
                · skip
                  exact absurd zc61 (by omega)
        have h0 := loop (AK A) (AK A) rfl (Nat.le_refl _)
        rw [Nat.sub_self] at h0
        exact h0 _ _
      · skip
        have loop : ∀ (mm : Nat) (p : Nat), mm = p → p ≤ AK A → ∀ x6 x7 : Option Value, G 33 [some (.ref (f_ad E 0)), some (.int (iI dq)), some (.int (iI mq)), some (.int (iI 1)), some (.int (iI (seekP (wrC (AL A) dq mq (decide ((1 : Int) ≠ 0))) (AK A - p) p))), some (.int (iI ((p : Int) - 1))), x6, x7] [] σ := by
          intro mm
          induction mm using Nat.strongRecOn with
          | ind mm ih =>
            intro p hm hp x6 x7
            refine g_iload_5 hR dX8_wrong_33 (g_if_lt hR 129 dX8_wrong_35 (by decide) (by omega) (fun zc35 => ?_) (fun zc35 => ?_))
            · skip
              refine g_iload_4 hR dX8_wrong_129 ?_
              obtain rfl : p = 0 := by omega
              exact g_iret hR dX8_wrong_131 rfl (by unfold sp_wrong; rw [if_pos (by omega)]; rfl) h
            · skip
              have hp1 : (p : Int) - 1 = ((p - 1 : Nat) : Int) := by omega
              have k107 : ∀ (x6 : Int) (x7 : Option Value) (v : Int), v = (if wrC (AL A) dq mq (decide ((1 : Int) ≠ 0)) (p - 1) = true then 1 else 0) → G 107 [some (.ref (f_ad E 0)), some (.int (iI dq)), some (.int (iI mq)), some (.int (iI 1)), some (.int (iI (seekP (wrC (AL A) dq mq (decide ((1 : Int) ≠ 0))) (AK A - p) p))), some (.int (iI ((p : Int) - 1))), some (.int (iI x6)), x7] [.int (iI v)] σ := by
                intro x6 x7 v hv
                refine g_istore_7 hR dX8_wrong_107 rfl (g_iload_7 hR dX8_wrong_109 (g_if_eq hR 119 dX8_wrong_111 (by decide) (by rw [hv]; split <;> omega) (fun zc111 => ?_) (fun zc111 => ?_)))
                · skip
                  refine g_iload_4 hR dX8_wrong_119 (g_istore_4 hR dX8_wrong_121 rfl (g_iinc_5 hR dX8_wrong_123 rfl (g_goto hR 33 dX8_wrong_126 (by decide) ?_)))
                  have h9 := ih (p - 1) (by omega) (p - 1) rfl (by omega)
                  rw [seekP_no (by omega) (ifB (hv ▸ zc111)), show AK A - (p - 1) - 1 = AK A - p from by omega, show p - 1 + 1 = p from by omega, show (((p - 1 : Nat) : Int) - 1) = (p : Int) - 1 + -1 from by omega] at h9
                  exact h9 _ _
                · skip
                  refine g_iload_5 hR dX8_wrong_114 (g_goto hR 121 dX8_wrong_116 (by decide) (g_istore_4 hR dX8_wrong_121 rfl (g_iinc_5 hR dX8_wrong_123 rfl (g_goto hR 33 dX8_wrong_126 (by decide) ?_))))
                  have h9 := ih (p - 1) (by omega) (p - 1) rfl (by omega)
                  rw [seekP_yes (by omega) (ifB1 (hv ▸ zc111)), show (((p - 1 : Nat) : Int) - 1) = (p : Int) - 1 + -1 from by omega, show ((p - 1 : Nat) : Int) = (p : Int) - 1 from by omega] at h9
                  exact h9 _ _
              refine g_aload_0 hR dX8_wrong_38 (g_getR hR dX8_wrong_39 flX8_7 (by decide) rfl rfl (g_iconst hR dX8_wrong_42 (g_iload_5 hR dX8_wrong_43 (g_imul hR dX8_wrong_45 (g_iconst hR dX8_wrong_46 (g_iadd hR dX8_wrong_47 (g_aldU hR _ dX8_wrong_48 (by decide) rfl (by decide) (by omega) (h.ls (p - 1) (by omega)).2.1 (by omega) (g_iload_1 hR dX8_wrong_49 (g_icmp_ne hR 57 dX8_wrong_50 (by decide) (by have := ok.L.r (p - 1); omega) (by omega) (fun zc50 => ?_) (fun zc50 => ?_))))))))))
              · skip
                refine g_iconst hR dX8_wrong_57 (g_istore_6 hR dX8_wrong_58 rfl (g_iload_3 hR dX8_wrong_60 (g_if_eq hR 87 dX8_wrong_61 (by decide) (by omega) (fun zc61 => ?_) (fun zc61 => ?_))))
                · skip
                  exact absurd zc61 (by omega)
                · skip
                  refine g_iload_6 hR dX8_wrong_64 (g_if_eq hR 83 dX8_wrong_66 (by decide) (by omega) (fun zc66 => ?_) (fun zc66 => ?_))
                  · skip
                    refine g_iconst hR dX8_wrong_83 (g_goto hR 107 dX8_wrong_84 (by decide) ?_)
                    exact k107 _ _ 0 (by rw [show wrC (AL A) dq mq (decide ((1 : Int) ≠ 0)) (p - 1) = false from (wrC_of (H := decide _) rfl (decide_eq_false (show ¬ (Lr (AL A)).getD (p - 1) 0 = dq from by omega))).trans rfl]; first | done | rfl)
                  · skip
                    exact absurd zc66 (by omega)
              · skip
                refine g_iconst hR dX8_wrong_53 (g_goto hR 58 dX8_wrong_54 (by decide) (g_istore_6 hR dX8_wrong_58 rfl (g_iload_3 hR dX8_wrong_60 (g_if_eq hR 87 dX8_wrong_61 (by decide) (by omega) (fun zc61 => ?_) (fun zc61 => ?_)))))
                · skip
                  exact absurd zc61 (by omega)
                · skip
                  refine g_iload_6 hR dX8_wrong_64 (g_if_eq hR 83 dX8_wrong_66 (by decide) (by omega) (fun zc66 => ?_) (fun zc66 => ?_))
                  · skip
                    exact absurd zc66 (by omega)
                  · skip
                    refine g_aload_0 hR dX8_wrong_69 (g_iload_2 hR dX8_wrong_70 (g_iload_5 hR dX8_wrong_71 ?_))
                    rw [hp1]
                    refine g_callV2P hR dX8_wrong_73 mlX8_220 (by decide) rfl rfl (C8_holds h.ls ok.L (k := p - 1) (m := mq) (by omega) (by omega)) (by decide) (Nat.le_of_ble_eq_true rfl) ?_
                    rw [← hp1]
                    refine g_if_ne hR 83 dX8_wrong_76 (by decide) (by split <;> omega) (fun zc76 => ?_) (fun zc76 => ?_)
                    · skip
                      refine g_iconst hR dX8_wrong_83 (g_goto hR 107 dX8_wrong_84 (by decide) ?_)
                      exact k107 _ _ 0 (by rw [show wrC (AL A) dq mq (decide ((1 : Int) ≠ 0)) (p - 1) = false from (wrC_of (decide_eq_true (ite1 zc76)) (decide_eq_true (show (Lr (AL A)).getD (p - 1) 0 = dq from by omega))).trans rfl]; first | done | rfl)
                    · skip
                      refine g_iconst hR dX8_wrong_79 (g_goto hR 107 dX8_wrong_80 (by decide) ?_)
                      exact k107 _ _ 1 (by rw [show wrC (AL A) dq mq (decide ((1 : Int) ≠ 0)) (p - 1) = true from (wrC_of (decide_eq_false (ite0 zc76)) (decide_eq_true (show (Lr (AL A)).getD (p - 1) 0 = dq from by omega))).trans rfl]; first | done | rfl)
        have h0 := loop (AK A) (AK A) rfl (Nat.le_refl _)
        rw [Nat.sub_self] at h0
        exact h0 _ _
    · skip
      refine g_iconst hR dX8_wrong_19 ?_
      exact g_iret hR dX8_wrong_20 rfl (by unfold sp_wrong; rw [if_neg (by omega)]; skip) h
