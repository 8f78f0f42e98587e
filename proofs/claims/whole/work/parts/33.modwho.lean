
def fitJ (A : AS) (s f j : Nat) : Bool := ((Az A).take j).all (fun v => decide ((runD (AL A) s f (Lrow (AL A)) []).getD (v / 6) 0 = v % 6))
theorem fitJ_succ {A : AS} {s f j : Nat} (h : j < (Az A).length) : fitJ A s f (j + 1) = (fitJ A s f j && decide ((runD (AL A) s f (Lrow (AL A)) []).getD ((Az A).getD j 0 / 6) 0 = (Az A).getD j 0 % 6)) := by
  unfold fitJ
  rw [take_snoc h, List.all_append]
  simp
theorem fitJ_all (A : AS) (s f : Nat) : fitJ A s f (Az A).length = fitB A s f := by unfold fitJ fitB; rw [List.take_length]
theorem wok_nil (L : Les) : WOK L [] := fun w h => absurd h List.not_mem_nil

theorem C8_isFit {E : f_E} {σ : f_Mem} {A : AS} (h : InvM σ A) (ok : ASOK A) {s f : Nat} (hs : s < 4) (hf : f < 6) : FZ E sM mX8_isFit 6 [.ref (f_ad E 0), .int (iI s), .int (iI f)] σ (if fitB A s f = true then 1 else 0) (fun u => InvM u A) := by
  have hK1 := ok.K1
  have hK6 := ok.K6
  have hkk : AK A = (Lm (AL A)).length := rfl
  have hrl := ok.L.rl
  have hwl := ok.wl
  have hwo := ok.w
  have h6h := ok.M.2.2
  have hf6 := ok.L.f
  have hs4 := ok.L.s
  have hz := ok.2.2.2.2.2.2.1
  refine FZ.intro rfl (Nat.le_of_ble_eq_true rfl) (L0 := [some (.ref (f_ad E 0)), some (.int (iI s)), some (.int (iI f)), none, none]) rfl (fun G hR => ?_)
  refine g_aload_0 hR dX8_isFit_0 (g_callV0V hR dX8_isFit_1 mlX8_188 (by decide) rfl rfl (C8_putAside) (by decide) (Nat.le_of_ble_eq_true rfl) (fun zu1 hzu1 => (g_iconst hR dX8_isFit_4 (g_istore_3 hR dX8_isFit_5 rfl ?_))))
  have loop : ∀ (mm : Nat) (j : Nat) (u : f_Mem), mm = 50 - j → j ≤ 50 → (∀ i, i < j → u 3 i = iI 0) → FrM [3] [] zu1 u → G 6 [some (.ref (f_ad E 0)), some (.int (iI s)), some (.int (iI f)), some (.int (iI j)), none] [] u := by
    intro mm
    induction mm using Nat.strongRecOn with
    | ind mm ih =>
      intro j u hm hj hc hF
      have hL2 := (h.ls.fr (hzu1.2.1 1 (by decide) (by decide))).fr (hF.1 1 (by decide) (by decide))
      have hrw2 := (h.rw.fr (hzu1.2.1 2 (by decide) (by decide))).fr (hF.1 2 (by decide) (by decide))
      have hrn2 := (hF.2 5 (by decide)).trans ((hzu1.2.2 5 (by decide)).trans h.rn)
      refine g_iload_3 hR dX8_isFit_6 (g_bipush hR dX8_isFit_7 (by decide) (g_icmp_ge hR 25 dX8_isFit_9 (by decide) (by omega) (by omega) (fun zc9 => ?_) (fun zc9 => ?_)))
      · skip
        obtain rfl : j = 50 := by omega
        refine g_aload_0 hR dX8_isFit_25 (g_iload_1 hR dX8_isFit_26 (g_iload_2 hR dX8_isFit_27 (g_callV2Z hR dX8_isFit_28 mlX8_191 (by decide) rfl rfl (C8_runRow (L := AL A) (M := M00) (StM.zero hc) hL2 ok.L (wok_nil _) rfl hrw2 hrn2 ok.L.2.2.1.2 hrl hs hf) (by decide) (Nat.le_of_ble_eq_true rfl) (fun zu3 hzu3 => (g_pop hR dX8_isFit_31 rfl (g_aload_0 hR dX8_isFit_32 (g_callV0V hR dX8_isFit_33 mlX8_194 (by decide) rfl rfl (C8_takeBack) (by decide) (Nat.le_of_ble_eq_true rfl) (fun zu4 hzu4 => ?_))))))))
        have hFF : FrM [3, 9, 10, 11] [17] σ zu4 := (hzu1.2.mono (by decide) (by decide)).tr ((hF.mono (by decide) (by decide)).tr ((hzu3.2.2.mono (by decide) (by decide)).tr (hzu4.2.mono (by decide) (by decide))))
        have hI := h.keep (hFF.mono (by decide) (by decide)) (h.st.cp (fun i hi => (hzu4.1 i hi).trans ((congrFun (hzu3.2.2.1 9 (by decide) (by decide)) (0 + i)).trans ((congrFun (hF.1 9 (by decide) (by decide)) (0 + i)).trans (hzu1.1 i hi)))))
        have hD := hzu3.2.1.fr (hzu4.2.1 10 (by decide) (by decide)) (hzu4.2.1 11 (by decide) (by decide))
        refine g_iconst hR dX8_isFit_36 (g_istore_3 hR dX8_isFit_37 rfl (g_iconst hR dX8_isFit_38 (g_istore_4 hR dX8_isFit_39 rfl ?_)))
        have loop2 : ∀ (mm2 : Nat) (j : Nat), mm2 = (Az A).length - j → j ≤ (Az A).length → G 41 [some (.ref (f_ad E 0)), some (.int (iI s)), some (.int (iI f)), some (.int (iI (if fitJ A s f j = true then (1 : Int) else 0))), some (.int (iI j))] [] zu4 := by
          intro mm2
          induction mm2 using Nat.strongRecOn with
          | ind mm2 ih2 =>
            intro j hm hj
            have hd9 := runD_lt (L := AL A) (s := s) hf (Lrow (AL A)) [] ((Az A).getD j 0 / 6)
            refine g_iload_4 hR dX8_isFit_41 (g_aload_0 hR dX8_isFit_43 (g_getI hR _ dX8_isFit_44 flX8_145 (by decide) rfl rfl hI.sl (g_icmp_ge hR 88 dX8_isFit_47 (by decide) (by omega) (by omega) (fun zc47 => ?_) (fun zc47 => ?_))))
            · skip
              refine g_iload_3 hR dX8_isFit_88 ?_
              exact g_zret hR dX8_isFit_89 rfl (by split <;> omega) (by rw [show j = (Az A).length from by omega, fitJ_all]) hI
            · skip
              refine g_iload_3 hR dX8_isFit_50 (g_if_eq hR 80 dX8_isFit_51 (by decide) (by split <;> omega) (fun zc51 => ?_) (fun zc51 => ?_))
              · skip
                refine g_iconst hR dX8_isFit_80 (g_istore_3 hR dX8_isFit_81 rfl (g_iinc_4 hR dX8_isFit_82 rfl (g_goto hR 41 dX8_isFit_85 (by decide) ?_)))
                have e9 : fitJ A s f (j + 1) = false := by rw [fitJ_succ (by omega), ifB zc51]; rfl
                have h9 := ih2 ((Az A).length - (j + 1)) (by omega) (j + 1) rfl (by omega)
                rw [e9] at h9
                exact h9
              · skip
                refine g_aload_0 hR dX8_isFit_54 (g_getR hR dX8_isFit_55 flX8_37 (by decide) rfl rfl (g_aload_0 hR dX8_isFit_58 (g_getR hR dX8_isFit_59 flX8_52 (by decide) rfl rfl (g_iload_4 hR dX8_isFit_62 (g_aldU hR _ dX8_isFit_64 (by decide) rfl (by decide) (by omega) (hI.sn j (by omega)).1 (by omega) (g_aldU hR _ dX8_isFit_65 (by decide) rfl (by decide) (by have := hz _ (getD_mem (show j < (Az A).length from by omega)); omega) (hD ((Az A).getD j 0 / 6) (hz _ (getD_mem (by omega)))).1 (by omega) (g_aload_0 hR dX8_isFit_66 (g_getR hR dX8_isFit_67 flX8_55 (by decide) rfl rfl (g_iload_4 hR dX8_isFit_70 (g_aldU hR _ dX8_isFit_72 (by decide) rfl (by decide) (by omega) (hI.sn j (by omega)).2 (by omega) (g_icmp_ne hR 80 dX8_isFit_73 (by decide) (by omega) (by omega) (fun zc73 => ?_) (fun zc73 => ?_))))))))))))
                · skip
                  refine g_iconst hR dX8_isFit_80 (g_istore_3 hR dX8_isFit_81 rfl (g_iinc_4 hR dX8_isFit_82 rfl (g_goto hR 41 dX8_isFit_85 (by decide) ?_)))
                  have e9 : fitJ A s f (j + 1) = false := by rw [fitJ_succ (by omega), decide_eq_false (by omega), Bool.and_false]
                  have h9 := ih2 ((Az A).length - (j + 1)) (by omega) (j + 1) rfl (by omega)
                  rw [e9] at h9
                  exact h9
                · skip
                  refine g_iconst hR dX8_isFit_76 (g_goto hR 81 dX8_isFit_77 (by decide) (g_istore_3 hR dX8_isFit_81 rfl (g_iinc_4 hR dX8_isFit_82 rfl (g_goto hR 41 dX8_isFit_85 (by decide) ?_))))
                  have e9 : fitJ A s f (j + 1) = true := by rw [fitJ_succ (by omega), decide_eq_true (by omega), ifB1 zc51]; rfl
                  have h9 := ih2 ((Az A).length - (j + 1)) (by omega) (j + 1) rfl (by omega)
                  rw [e9] at h9
                  exact h9
        exact loop2 (Az A).length 0 (by omega) (by omega)
      · skip
        refine g_aload_0 hR dX8_isFit_12 (g_getR hR dX8_isFit_13 flX8_16 (by decide) rfl rfl (g_iload_3 hR dX8_isFit_16 (g_iconst hR dX8_isFit_17 (g_astU hR (j) dX8_isFit_18 (by decide) rfl (by decide) (by omega) (by omega) (fun zu2 hzu2 => (g_iinc_3 hR dX8_isFit_19 rfl (g_goto hR 6 dX8_isFit_22 (by decide) ?_)))))))
        exact ih (50 - (j + 1)) (by omega) (j + 1) zu2 rfl (by omega) (fun i hi => by
          by_cases q : i = j
          · rw [q]; exact hzu2.1
          · rw [hzu2.2.1 i q]; exact hc i (by omega)) (hF.tr (FrM.ar hzu2 (by decide) (by decide)))
  exact loop 50 0 zu1 (by omega) (by omega) (fun i hi => absurd hi (by omega)) FrM.rf
theorem M_fits {E : f_E} {σ : f_Mem} {A : AS} (h : InvM σ A) (ok : ASOK A) : FZ E sM mX8_fits 11 [.ref (f_ad E 0)] σ (sp_fits A) (fun u => InvM u A) := by
  have hK1 := ok.K1
  have hK6 := ok.K6
  have hkk : AK A = (Lm (AL A)).length := rfl
  have hrl := ok.L.rl
  have hwl := ok.wl
  have hwo := ok.w
  have h6h := ok.M.2.2
  have hf6 := ok.L.f
  have hs4 := ok.L.s
  refine FZ.intro rfl (Nat.le_of_ble_eq_true rfl) (L0 := [some (.ref (f_ad E 0)), none, none]) rfl (fun G hR => ?_)
  refine g_iconst hR dX8_fits_0 (g_istore_1 hR dX8_fits_1 rfl (g_iconst hR dX8_fits_2 (g_istore_2 hR dX8_fits_3 rfl ?_)))
  have loop : ∀ (mm : Nat) (j : Nat) (u : f_Mem), mm = 4 - j → j ≤ 4 → InvM u A → G 4 [some (.ref (f_ad E 0)), some (.int (iI (bitsF (fun s => fitB A s (Lfirst (AL A))) j : Nat))), some (.int (iI j))] [] u := by
    intro mm
    induction mm using Nat.strongRecOn with
    | ind mm ih =>
      intro j u hm hj hI
      refine g_iload_2 hR dX8_fits_4 (g_iconst hR dX8_fits_5 (g_icmp_ge hR 37 dX8_fits_6 (by decide) (by omega) (by omega) (fun zc6 => ?_) (fun zc6 => ?_)))
      · skip
        refine g_iload_1 hR dX8_fits_37 ?_
        obtain rfl : j = 4 := by omega
        exact g_iret hR dX8_fits_38 rfl rfl hI
      · skip
        refine g_iload_1 hR dX8_fits_9 (g_aload_0 hR dX8_fits_10 (g_iload_2 hR dX8_fits_11 (g_aload_0 hR dX8_fits_12 (g_getI hR _ dX8_fits_13 flX8_139 (by decide) rfl rfl hI.hd.2.2 (g_callV2Z hR dX8_fits_16 mlX8_214 (by decide) rfl rfl (C8_isFit hI ok (s := j) (by omega) hf6) (by decide) (Nat.le_of_ble_eq_true rfl) (fun zu1 hzu1 => (g_if_eq hR 28 dX8_fits_19 (by decide) (by split <;> omega) (fun zc19 => ?_) (fun zc19 => ?_))))))))
        · skip
          refine g_iconst hR dX8_fits_28 (g_ior hR (b := 0) dX8_fits_29 (g_istore_1 hR dX8_fits_30 rfl (g_iinc_2 hR dX8_fits_31 rfl (g_goto hR 4 dX8_fits_34 (by decide) ?_))))
          have e9 : bitsF (fun s => fitB A s (Lfirst (AL A))) (j + 1) = bitsF (fun s => fitB A s (Lfirst (AL A))) j ||| 0 := by rw [Nat.or_zero]; exact if_neg (by rw [show fitB A j (Lfirst (AL A)) = false from ifB zc19]; decide)
          have h9 := ih (4 - (j + 1)) (by omega) (j + 1) zu1 rfl (by omega) hzu1
          rw [e9] at h9
          exact h9
        · skip
          refine g_iconst hR dX8_fits_22 (g_iload_2 hR dX8_fits_23 (g_ishl1 hR dX8_fits_24 (by omega) (g_goto hR 29 dX8_fits_25 (by decide) (g_ior hR dX8_fits_29 (g_istore_1 hR dX8_fits_30 rfl (g_iinc_2 hR dX8_fits_31 rfl (g_goto hR 4 dX8_fits_34 (by decide) ?_)))))))
          have e9 : bitsF (fun s => fitB A s (Lfirst (AL A))) (j + 1) = bitsF (fun s => fitB A s (Lfirst (AL A))) j ||| (1 * 2 ^ j) := if_pos (ifB1 zc19)
          have h9 := ih (4 - (j + 1)) (by omega) (j + 1) zu1 rfl (by omega) hzu1
          rw [e9] at h9
          exact h9
  exact loop 4 0 σ (by omega) (by omega) h
theorem M_firsts {E : f_E} {σ : f_Mem} {A : AS} (h : InvM σ A) (ok : ASOK A) {s : Int} (hs : -2147483648 ≤ s ∧ s < 2147483648) : FZ E sM mX8_firsts 12 [.ref (f_ad E 0), .int (iI s)] σ (sp_firsts A s) (fun u => InvM u A) := by
  have hK1 := ok.K1
  have hK6 := ok.K6
  have hkk : AK A = (Lm (AL A)).length := rfl
  have hrl := ok.L.rl
  have hwl := ok.wl
  have hwo := ok.w
  have h6h := ok.M.2.2
  have hf6 := ok.L.f
  have hs4 := ok.L.s
  refine FZ.intro rfl (Nat.le_of_ble_eq_true rfl) (L0 := [some (.ref (f_ad E 0)), some (.int (iI s)), none, none]) rfl (fun G hR => ?_)
  refine g_iload_1 hR dX8_firsts_0 (g_i2l hR dX8_firsts_1 (by omega) (g_lconst hR 0 dX8_firsts_2 (by decide) (g_ldc2 hR (3) dX8_firsts_3 kcX8_180 (by decide) (g_callS3P hR dX8_firsts_6 mlX8_78 (C8_in (by omega) (by omega) (by omega)) (by decide) (Nat.le_of_ble_eq_true rfl) (g_if_ne hR 14 dX8_firsts_9 (by decide) (by split <;> omega) (fun zc9 => ?_) (fun zc9 => ?_))))))
  · skip
    obtain ⟨sq, rfl⟩ : ∃ sq : Nat, s = sq := ⟨s.toNat, by omega⟩
    refine g_iconst hR dX8_firsts_14 (g_istore_2 hR dX8_firsts_15 rfl (g_iconst hR dX8_firsts_16 (g_istore_3 hR dX8_firsts_17 rfl ?_)))
    have loop : ∀ (mm : Nat) (j : Nat) (u : f_Mem), mm = 6 - j → j ≤ 6 → InvM u A → G 18 [some (.ref (f_ad E 0)), some (.int (iI sq)), some (.int (iI (bitsF (fun f => fitB A sq f) j : Nat))), some (.int (iI j))] [] u := by
      intro mm
      induction mm using Nat.strongRecOn with
      | ind mm ih =>
        intro j u hm hj hI
        refine g_iload_3 hR dX8_firsts_18 (g_bipush hR dX8_firsts_19 (by decide) (g_icmp_ge hR 49 dX8_firsts_21 (by decide) (by omega) (by omega) (fun zc21 => ?_) (fun zc21 => ?_)))
        · skip
          refine g_iload_2 hR dX8_firsts_49 ?_
          obtain rfl : j = 6 := by omega
          exact g_iret hR dX8_firsts_50 rfl (by unfold sp_firsts; rw [if_pos (by omega)]; rfl) hI
        · skip
          refine g_iload_2 hR dX8_firsts_24 (g_aload_0 hR dX8_firsts_25 (g_iload_1 hR dX8_firsts_26 (g_iload_3 hR dX8_firsts_27 (g_callV2Z hR dX8_firsts_28 mlX8_214 (by decide) rfl rfl (C8_isFit hI ok (s := sq) (f := j) (by omega) (by omega)) (by decide) (Nat.le_of_ble_eq_true rfl) (fun zu1 hzu1 => (g_if_eq hR 40 dX8_firsts_31 (by decide) (by split <;> omega) (fun zc31 => ?_) (fun zc31 => ?_)))))))
          · skip
            refine g_iconst hR dX8_firsts_40 (g_ior hR (b := 0) dX8_firsts_41 (g_istore_2 hR dX8_firsts_42 rfl (g_iinc_3 hR dX8_firsts_43 rfl (g_goto hR 18 dX8_firsts_46 (by decide) ?_))))
            have e9 : bitsF (fun f => fitB A sq f) (j + 1) = bitsF (fun f => fitB A sq f) j ||| 0 := by rw [Nat.or_zero]; exact if_neg (by rw [show fitB A sq j = false from ifB zc31]; decide)
            have h9 := ih (6 - (j + 1)) (by omega) (j + 1) zu1 rfl (by omega) hzu1
            rw [e9] at h9
            exact h9
          · skip
            refine g_iconst hR dX8_firsts_34 (g_iload_3 hR dX8_firsts_35 (g_ishl1 hR dX8_firsts_36 (by omega) (g_goto hR 41 dX8_firsts_37 (by decide) (g_ior hR dX8_firsts_41 (g_istore_2 hR dX8_firsts_42 rfl (g_iinc_3 hR dX8_firsts_43 rfl (g_goto hR 18 dX8_firsts_46 (by decide) ?_)))))))
            have e9 : bitsF (fun f => fitB A sq f) (j + 1) = bitsF (fun f => fitB A sq f) j ||| (1 * 2 ^ j) := if_pos (ifB1 zc31)
            have h9 := ih (6 - (j + 1)) (by omega) (j + 1) zu1 rfl (by omega) hzu1
            rw [e9] at h9
            exact h9
    exact loop 6 0 σ (by omega) (by omega) h
  · skip
    refine g_iconst hR dX8_firsts_12 ?_
    exact g_iret hR dX8_firsts_13 rfl (by unfold sp_firsts; rw [if_neg (by omega)]; skip) h

theorem mx6_maxN (f : Nat → Nat) : mx6 f = maxN f 6 := by
  show max (f 0) (max (f 1) (max (f 2) (max (f 3) (max (f 4) (f 5))))) = max (max (max (max (max (max 0 (f 0)) (f 1)) (f 2)) (f 3)) (f 4)) (f 5)
  omega
def gK (A : AS) (k : Nat) : Nat → Option Nat := gA A (fitsN A) k
def fK (A : AS) (k : Nat) : Nat := mx6 (cntA (gK A k) 4)
def bA (A : AS) (n : Nat) : Int := if n = 0 then -4 else ((amn (fK A) n).1 : Nat)
def lA (A : AS) (n : Nat) : Int := if n = 0 then -4 else ((amn (fK A) n).2 : Nat)
theorem fK_le (A : AS) (k : Nat) : fK A k ≤ 4 := mx6_le (cntA_le (gK A k) 4)
theorem ask_up {A : AS} {k : Nat} (h : bA A k < 0 ∨ (fK A k : Int) < lA A k) : bA A (k + 1) = k ∧ lA A (k + 1) = fK A k := by
  have e : amn (fK A) (k + 1) = (k, fK A k) := by
    refine if_pos ?_
    by_cases q : k = 0
    · subst q; have := fK_le A 0; show fK A 0 < 5; omega
    · unfold bA lA at h; rw [if_neg q, if_neg q] at h; omega
  unfold bA lA
  rw [if_neg (by omega), if_neg (by omega), e]; exact ⟨rfl, rfl⟩
theorem ask_stay {A : AS} {k : Nat} (h1 : 0 ≤ bA A k) (h2 : lA A k ≤ (fK A k : Int)) : bA A (k + 1) = bA A k ∧ lA A (k + 1) = lA A k := by
  have q : k ≠ 0 := fun q => by subst q; unfold bA at h1; rw [if_pos rfl] at h1; omega
  unfold bA lA at *
  rw [if_neg q] at h1 h2
  have e : amn (fK A) (k + 1) = amn (fK A) k := if_neg (by omega)
  rw [if_neg (by omega), if_neg (by omega), if_neg q, if_neg q, e]; exact ⟨rfl, rfl⟩
theorem bA_lt (A : AS) (k : Nat) : -4 ≤ bA A k ∧ bA A k < max k 1 := by
  unfold bA
  by_cases q : k = 0
  · rw [if_pos q]; omega
  · rw [if_neg q]
    have : ∀ n, 0 < n → (amn (fK A) n).1 < n := fun n hn => by
      induction n with
      | zero => omega
      | succ n ih =>
        show (if fK A n < (amn (fK A) n).2 then (n, fK A n) else amn (fK A) n).1 < n + 1
        by_cases z : fK A n < (amn (fK A) n).2
        · rw [if_pos z]; exact Nat.lt_succ_self n
        · rw [if_neg z]
          by_cases y : n = 0
          · subst y; exact Nat.lt_succ_self 0
          · have := ih (by omega); omega
    have := this k (by omega)
    omega
theorem lA_lt (A : AS) (k : Nat) : -4 ≤ lA A k ∧ lA A k ≤ 5 := by
  unfold lA
  by_cases q : k = 0
  · rw [if_pos q]; omega
  · rw [if_neg q]; have := amn_le (fK A) k; omega
theorem gK_none {A : AS} {k i : Nat} (h : ¬ fitsN A / 2 ^ i % 2 = 1) : gK A k i = none := if_neg h
theorem gK_some {A : AS} {k i : Nat} (h : fitsN A / 2 ^ i % 2 = 1) : gK A k i = some (does (AL A) i (Lfirst (AL A)) k (AM A).1) := if_pos h
theorem ite1 {p : Prop} {_ : Decidable p} (h : ¬ (if p then (1 : Int) else 0) = 0) : p := Decidable.byContradiction (fun q => h (if_neg q))
theorem ite0 {p : Prop} {_ : Decidable p} (h : (if p then (1 : Int) else 0) = 0) : ¬ p := fun q => by rw [if_pos q] at h; omega

