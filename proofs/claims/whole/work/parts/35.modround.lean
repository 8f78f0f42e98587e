
def psU (A : AS) : Nat → Mms
  | 0 => AM A
  | n + 1 => runU (AL A) (Lsort (AL A)) (Lfirst (AL A)) (Lrow (AL A)) (psU A n)
theorem psU_1 (A : AS) : ∀ n, (psU A n).1 = passR A n
  | 0 => rfl
  | n + 1 => by
    show (runU (AL A) (Lsort (AL A)) (Lfirst (AL A)) (Lrow (AL A)) (psU A n)).1 = runR (AL A) (Lsort (AL A)) (Lfirst (AL A)) (Lrow (AL A)) (passR A n)
    rw [runU_1, psU_1 A n]
theorem psU_6 (A : AS) : ∀ n, (psU A n).2.1.length = (AM A).2.1.length
  | 0 => rfl
  | n + 1 => (runU_6 _ _ _ _ _).trans (psU_6 A n)
def psD (A : AS) (q : Nat) : List Nat := runD (AL A) (Lsort (AL A)) (Lfirst (AL A)) (Lrow (AL A)) (passR A q)
def psX (A : AS) (n : Nat) : Nat := (psD A (n / (Lrow (AL A)).length)).getD (n % (Lrow (AL A)).length) 0
theorem psX_at (A : AS) {q i : Nat} (h : i < (Lrow (AL A)).length) : psX A (q * (Lrow (AL A)).length + i) = (psD A q).getD i 0 := by
  unfold psX
  rw [Nat.mul_comm, Nat.mul_add_div (by omega), Nat.mul_add_mod, Nat.div_eq_of_lt h, Nat.mod_eq_of_lt h, Nat.add_zero]
theorem psX_lt {A : AS} (ok : ASOK A) (n : Nat) : psX A n < 6 := runD_lt ok.L.f _ _ _
theorem psD_len (A : AS) (q : Nat) : (psD A q).length = (Lrow (AL A)).length := runD_len _ _ _ _ _
def PsX (A : AS) (u : f_Mem) (n : Nat) : Prop := ∀ i, i < n → u 12 i = iI (psX A i : Nat)
theorem PsX.fr {A : AS} {σ u : f_Mem} {n : Nat} (h : PsX A σ n) (e : u 12 = σ 12) : PsX A u n := fun i hi => by rw [e]; exact h i hi
theorem enc6_inj : ∀ (l m : List Nat) (a b : Nat), l.length = m.length → (∀ d ∈ l, d < 6) → (∀ d ∈ m, d < 6) → l.foldl (fun a d => 6 * a + d) a = m.foldl (fun a d => 6 * a + d) b → a = b ∧ l = m
  | [], [], a, b, _, _, _, h => ⟨h, rfl⟩
  | [], _ :: _, _, _, h, _, _, _ => by simp at h
  | _ :: _, [], _, _, h, _, _, _ => by simp at h
  | x :: l, y :: m, a, b, hl, h1, h2, h => by
    obtain ⟨e1, e2⟩ := enc6_inj l m (6 * a + x) (6 * b + y) (by simpa using hl) (fun d hd => h1 d (List.mem_cons_of_mem _ hd)) (fun d hd => h2 d (List.mem_cons_of_mem _ hd)) h
    have hx := h1 x List.mem_cons_self
    have hy := h2 y List.mem_cons_self
    have : a = b ∧ x = y := by omega
    exact ⟨this.1, by rw [e2, this.2]⟩
theorem passE_eq {A : AS} (ok : ASOK A) (p q : Nat) : passE A p = passE A q ↔ ∀ i, i < (Lrow (AL A)).length → (psD A p).getD i 0 = (psD A q).getD i 0 := by
  constructor
  · intro h i _
    rw [(enc6_inj (psD A p) (psD A q) 0 0 (by rw [psD_len, psD_len]) (runD_mem ok.L.f _ _) (runD_mem ok.L.f _ _) h).2]
  · intro h
    have e : psD A p = psD A q := by
      apply List.ext_getElem?
      intro i
      by_cases q1 : i < (Lrow (AL A)).length
      · rw [getD_some (by rw [psD_len]; exact q1), getD_some (by rw [psD_len]; exact q1), h i q1]
      · rw [List.getElem?_eq_none (by rw [psD_len]; omega), List.getElem?_eq_none (by rw [psD_len]; omega)]
    show enc6 (psD A p) = enc6 (psD A q)
    rw [e]
def rndK (A : AS) (p k : Nat) : Bool := decide (psX A (20 * (Lrow (AL A)).length + k) = psX A (20 * (Lrow (AL A)).length + k + p * (Lrow (AL A)).length)) && decide (psX A (20 * (Lrow (AL A)).length + k) = psX A (20 * (Lrow (AL A)).length + k + 2 * (p * (Lrow (AL A)).length)))
def rndJ (A : AS) (p j : Nat) : Bool := (List.range j).all (rndK A p)
theorem rndJ_succ (A : AS) (p j : Nat) : rndJ A p (j + 1) = (rndJ A p j && rndK A p j) := by
  unfold rndJ
  rw [List.range_succ, List.all_append]
  simp
theorem rndJ_all {A : AS} (ok : ASOK A) (p : Nat) (hl : 0 < (Lrow (AL A)).length) : rndJ A p (p * (Lrow (AL A)).length) = rndC A p := by
  have key : ∀ i r, r < (Lrow (AL A)).length → rndK A p (i * (Lrow (AL A)).length + r) = (decide ((psD A (20 + i)).getD r 0 = (psD A (20 + (p + i))).getD r 0) && decide ((psD A (20 + i)).getD r 0 = (psD A (20 + (2 * p + i))).getD r 0)) := fun i r hr => by
    unfold rndK
    have e1 : 20 * (Lrow (AL A)).length + (i * (Lrow (AL A)).length + r) = (20 + i) * (Lrow (AL A)).length + r := by rw [Nat.add_mul]; omega
    have e2 : (20 + i) * (Lrow (AL A)).length + r + p * (Lrow (AL A)).length = (20 + (p + i)) * (Lrow (AL A)).length + r := by rw [Nat.add_mul, Nat.add_mul, Nat.add_mul]; omega
    have e3 : (20 + i) * (Lrow (AL A)).length + r + 2 * (p * (Lrow (AL A)).length) = (20 + (2 * p + i)) * (Lrow (AL A)).length + r := by rw [Nat.add_mul, Nat.add_mul, Nat.add_mul, Nat.mul_assoc]; omega
    rw [e1, e2, e3, psX_at A hr, psX_at A hr, psX_at A hr]
  rw [Bool.eq_iff_iff]
  unfold rndJ rndC
  rw [List.all_eq_true, List.all_eq_true]
  constructor
  · intro h i hi
    have hi := List.mem_range.mp hi
    have hb : i * (Lrow (AL A)).length + (Lrow (AL A)).length ≤ p * (Lrow (AL A)).length := by
      have := Nat.mul_le_mul_right (Lrow (AL A)).length (show i + 1 ≤ p from hi)
      rwa [Nat.add_mul, Nat.one_mul] at this
    have hk : ∀ r, r < (Lrow (AL A)).length → (psD A (20 + i)).getD r 0 = (psD A (20 + (p + i))).getD r 0 ∧ (psD A (20 + i)).getD r 0 = (psD A (20 + (2 * p + i))).getD r 0 := fun r hr => by
      have := h (i * (Lrow (AL A)).length + r) (List.mem_range.mpr (by omega))
      rw [key i r hr, Bool.and_eq_true, decide_eq_true_eq, decide_eq_true_eq] at this
      exact this
    rw [Bool.and_eq_true, decide_eq_true_eq, decide_eq_true_eq]
    exact ⟨(passE_eq ok _ _).mpr (fun r hr => ((hk r hr).1).symm), (passE_eq ok _ _).mpr (fun r hr => ((hk r hr).2).symm)⟩
  · intro h k hk
    have hk := List.mem_range.mp hk
    have e : k = k / (Lrow (AL A)).length * (Lrow (AL A)).length + k % (Lrow (AL A)).length := by rw [Nat.mul_comm]; exact (Nat.div_add_mod k _).symm
    have hr := Nat.mod_lt k hl
    have hq : k / (Lrow (AL A)).length < p := (Nat.div_lt_iff_lt_mul hl).mpr hk
    rw [e, key _ _ hr]
    have := h _ (List.mem_range.mpr hq)
    rw [Bool.and_eq_true, decide_eq_true_eq, decide_eq_true_eq, passE_eq ok, passE_eq ok] at this
    rw [Bool.and_eq_true, decide_eq_true_eq, decide_eq_true_eq]
    exact ⟨((this.1) _ hr).symm, ((this.2) _ hr).symm⟩

theorem C8_isRound {E : f_E} {σ : f_Mem} {A : AS} (h : InvM σ A) (ok : ASOK A) (hps : PsX A σ (80 * (Lrow (AL A)).length)) (hl : 0 < (Lrow (AL A)).length) {p : Nat} (hp : p ≤ 20) : FZ E sM mX8_isRound 0 [.ref (f_ad E 0), .int (iI p)] σ (if rndC A p = true then 1 else 0) (fun u => u = σ) := by
  have hK1 := ok.K1
  have hK6 := ok.K6
  have hkk : AK A = (Lm (AL A)).length := rfl
  have hrl := ok.L.rl
  have hwl := ok.wl
  have hwo := ok.w
  have h6h := ok.M.2.2
  have hf6 := ok.L.f
  have hs4 := ok.L.s
  refine FZ.intro rfl (Nat.le_of_ble_eq_true rfl) (L0 := [some (.ref (f_ad E 0)), some (.int (iI p)), none, none, none]) rfl (fun G hR => ?_)
  refine g_iconst hR dX8_isRound_0 (g_istore_2 hR dX8_isRound_1 rfl (g_iconst hR dX8_isRound_2 (g_istore_3 hR dX8_isRound_3 rfl ?_)))
  have loop : ∀ (mm : Nat) (j : Nat), mm = p * (Lrow (AL A)).length - j → j ≤ p * (Lrow (AL A)).length → ∀ x4 : Option Value, G 4 [some (.ref (f_ad E 0)), some (.int (iI p)), some (.int (iI (if rndJ A p j = true then (1 : Int) else 0))), some (.int (iI j)), x4] [] σ := by
    intro mm
    induction mm using Nat.strongRecOn with
    | ind mm ih =>
      intro j hm hj x4
      have h1 := psX_lt ok (20 * (Lrow (AL A)).length + j)
      have h2 := psX_lt ok (20 * (Lrow (AL A)).length + j + p * (Lrow (AL A)).length)
      have h3 := psX_lt ok (20 * (Lrow (AL A)).length + j + 2 * (p * (Lrow (AL A)).length))
      have hM := Nat.mul_le_mul_right (Lrow (AL A)).length hp
      have e2 : (2 * (p : Int)) * ((Lrow (AL A)).length : Nat) = 2 * ((p * (Lrow (AL A)).length : Nat) : Int) := by rw [Int.mul_assoc]; rfl
      have e1 : (p : Int) * ((Lrow (AL A)).length : Nat) = ((p * (Lrow (AL A)).length : Nat) : Int) := rfl
      refine g_iload_3 hR dX8_isRound_4 (g_iload_1 hR dX8_isRound_5 (g_aload_0 hR dX8_isRound_6 (g_getI hR _ dX8_isRound_7 flX8_71 (by decide) rfl rfl h.rn (g_imul hR dX8_isRound_10 (g_icmp_ge hR 91 dX8_isRound_11 (by decide) (by omega) (by omega) (fun zc11 => ?_) (fun zc11 => ?_))))))
      · skip
        refine g_iload_2 hR dX8_isRound_91 ?_
        exact g_zret hR dX8_isRound_92 rfl (by split <;> omega) (by rw [show j = p * (Lrow (AL A)).length from by omega, rndJ_all ok p hl]) rfl
      · skip
        refine g_bipush hR dX8_isRound_14 (by decide) (g_aload_0 hR dX8_isRound_16 (g_getI hR _ dX8_isRound_17 flX8_71 (by decide) rfl rfl h.rn (g_imul hR dX8_isRound_20 (g_iload_3 hR dX8_isRound_21 (g_iadd hR dX8_isRound_22 (g_istore_4 hR dX8_isRound_23 rfl (g_iload_2 hR dX8_isRound_25 (g_if_eq hR 83 dX8_isRound_26 (by decide) (by split <;> omega) (fun zc26 => ?_) (fun zc26 => ?_)))))))))
        · skip
          refine g_iconst hR dX8_isRound_83 (g_istore_2 hR dX8_isRound_84 rfl (g_iinc_3 hR dX8_isRound_85 rfl (g_goto hR 4 dX8_isRound_88 (by decide) ?_)))
          have e9 : rndJ A p (j + 1) = false := by rw [rndJ_succ]; rw [ifB zc26]; rfl
          have h9 := ih (p * (Lrow (AL A)).length - (j + 1)) (by omega) (j + 1) rfl (by omega)
          rw [e9] at h9
          exact h9 _
        · skip
          refine g_aload_0 hR dX8_isRound_29 (g_getR hR dX8_isRound_30 flX8_43 (by decide) rfl rfl (g_iload_4 hR dX8_isRound_33 (g_aldU hR _ dX8_isRound_35 (by decide) rfl (by decide) (by omega) (hps (20 * (Lrow (AL A)).length + j) (by omega)) (by omega) (g_aload_0 hR dX8_isRound_36 (g_getR hR dX8_isRound_37 flX8_43 (by decide) rfl rfl (g_iload_4 hR dX8_isRound_40 (g_iload_1 hR dX8_isRound_42 (g_aload_0 hR dX8_isRound_43 (g_getI hR _ dX8_isRound_44 flX8_71 (by decide) rfl rfl h.rn (g_imul hR dX8_isRound_47 (g_iadd hR dX8_isRound_48 (g_aldU hR _ dX8_isRound_49 (by decide) rfl (by decide) (by omega) (hps (20 * (Lrow (AL A)).length + j + p * (Lrow (AL A)).length) (by omega)) (by omega) (g_icmp_ne hR 83 dX8_isRound_50 (by decide) (by omega) (by omega) (fun zc50 => ?_) (fun zc50 => ?_))))))))))))))
          · skip
            refine g_iconst hR dX8_isRound_83 (g_istore_2 hR dX8_isRound_84 rfl (g_iinc_3 hR dX8_isRound_85 rfl (g_goto hR 4 dX8_isRound_88 (by decide) ?_)))
            have e9 : rndJ A p (j + 1) = false := by rw [rndJ_succ]; rw [show rndK A p j = false from by unfold rndK; rw [decide_eq_false (by omega)]; rfl, Bool.and_false]
            have h9 := ih (p * (Lrow (AL A)).length - (j + 1)) (by omega) (j + 1) rfl (by omega)
            rw [e9] at h9
            exact h9 _
          · skip
            refine g_aload_0 hR dX8_isRound_53 (g_getR hR dX8_isRound_54 flX8_43 (by decide) rfl rfl (g_iload_4 hR dX8_isRound_57 (g_aldU hR _ dX8_isRound_59 (by decide) rfl (by decide) (by omega) (hps (20 * (Lrow (AL A)).length + j) (by omega)) (by omega) (g_aload_0 hR dX8_isRound_60 (g_getR hR dX8_isRound_61 flX8_43 (by decide) rfl rfl (g_iload_4 hR dX8_isRound_64 (g_iconst hR dX8_isRound_66 (g_iload_1 hR dX8_isRound_67 (g_imul hR dX8_isRound_68 (g_aload_0 hR dX8_isRound_69 (g_getI hR _ dX8_isRound_70 flX8_71 (by decide) rfl rfl h.rn (g_imul hR dX8_isRound_73 (g_iadd hR dX8_isRound_74 (g_aldU hR _ dX8_isRound_75 (by decide) rfl (by decide) (by omega) (hps (20 * (Lrow (AL A)).length + j + 2 * (p * (Lrow (AL A)).length)) (by omega)) (by omega) (g_icmp_ne hR 83 dX8_isRound_76 (by decide) (by omega) (by omega) (fun zc76 => ?_) (fun zc76 => ?_))))))))))))))))
            · skip
              refine g_iconst hR dX8_isRound_83 (g_istore_2 hR dX8_isRound_84 rfl (g_iinc_3 hR dX8_isRound_85 rfl (g_goto hR 4 dX8_isRound_88 (by decide) ?_)))
              have e9 : rndJ A p (j + 1) = false := by rw [rndJ_succ]; rw [show rndK A p j = false from by unfold rndK; rw [decide_eq_false (show ¬ psX A (20 * (Lrow (AL A)).length + j) = psX A (20 * (Lrow (AL A)).length + j + 2 * (p * (Lrow (AL A)).length)) from by omega), Bool.and_false], Bool.and_false]
              have h9 := ih (p * (Lrow (AL A)).length - (j + 1)) (by omega) (j + 1) rfl (by omega)
              rw [e9] at h9
              exact h9 _
            · skip
              refine g_iconst hR dX8_isRound_79 (g_goto hR 84 dX8_isRound_80 (by decide) (g_istore_2 hR dX8_isRound_84 rfl (g_iinc_3 hR dX8_isRound_85 rfl (g_goto hR 4 dX8_isRound_88 (by decide) ?_))))
              have e9 : rndJ A p (j + 1) = true := by rw [rndJ_succ, ifB1 zc26]; show rndK A p j = true; unfold rndK; rw [decide_eq_true (by omega), decide_eq_true (show psX A (20 * (Lrow (AL A)).length + j) = psX A (20 * (Lrow (AL A)).length + j + 2 * (p * (Lrow (AL A)).length)) from by omega)]; rfl
              have h9 := ih (p * (Lrow (AL A)).length - (j + 1)) (by omega) (j + 1) rfl (by omega)
              rw [e9] at h9
              exact h9 _
  exact loop (p * (Lrow (AL A)).length) 0 (by omega) (by omega) _
theorem M_round {E : f_E} {σ : f_Mem} {A : AS} (h : InvM σ A) (ok : ASOK A) : FZ E sM mX8_round 12 [.ref (f_ad E 0)] σ (sp_round A) (fun u => InvM u A) := by
  have hK1 := ok.K1
  have hK6 := ok.K6
  have hkk : AK A = (Lm (AL A)).length := rfl
  have hrl := ok.L.rl
  have hwl := ok.wl
  have hwo := ok.w
  have h6h := ok.M.2.2
  have hf6 := ok.L.f
  have hs4 := ok.L.s
  refine FZ.intro rfl (Nat.le_of_ble_eq_true rfl) (L0 := [some (.ref (f_ad E 0)), none, none]) rfl (fun G hR => ?_)
  refine g_aload_0 hR dX8_round_0 (g_getI hR _ dX8_round_1 flX8_71 (by decide) rfl rfl h.rn (g_if_ne hR 10 dX8_round_4 (by decide) (by omega) (fun zc4 => ?_) (fun zc4 => ?_)))
  · skip
    refine g_aload_0 hR dX8_round_10 (g_callV0V hR dX8_round_11 mlX8_188 (by decide) rfl rfl (C8_putAside) (by decide) (Nat.le_of_ble_eq_true rfl) (fun zu1 hzu1 => (g_iconst hR dX8_round_14 (g_istore_1 hR dX8_round_15 rfl ?_))))
    have loop : ∀ (mm : Nat) (p : Nat) (u : f_Mem), mm = 80 - p → p ≤ 80 → StM u 3 0 (psU A p) → PsX A u (p * (Lrow (AL A)).length) → FrM [3, 10, 11, 12] [17] zu1 u → ∀ x2 : Option Value, G 16 [some (.ref (f_ad E 0)), some (.int (iI p)), x2] [] u := by
      intro mm
      induction mm using Nat.strongRecOn with
      | ind mm ih =>
        intro p u hm hp hS hX hF x2
        have hL1 := (h.ls.fr (hzu1.2.1 1 (by decide) (by decide))).fr (hF.1 1 (by decide) (by decide))
        have hrw1 := (h.rw.fr (hzu1.2.1 2 (by decide) (by decide))).fr (hF.1 2 (by decide) (by decide))
        have hw1 : WOK (AL A) (psU A p).1 := by rw [psU_1]; exact passR_ok ok p
        have h61 : (psU A p).2.1.length = 6 := by rw [psU_6]; exact h6h
        refine g_iload_1 hR dX8_round_16 (g_bipush hR dX8_round_17 (by decide) (g_icmp_ge hR 76 dX8_round_19 (by decide) (by omega) (by omega) (fun zc19 => ?_) (fun zc19 => ?_)))
        · skip
          refine g_aload_0 hR dX8_round_76 (g_callV0V hR dX8_round_77 mlX8_194 (by decide) rfl rfl (C8_takeBack) (by decide) (Nat.le_of_ble_eq_true rfl) (fun zu2 hzu2 => ?_))
          obtain rfl : p = 80 := by omega
          have hF2 : FrM [3, 9, 10, 11, 12] [17] σ zu2 := (hzu1.2.mono (by decide) (by decide)).tr ((hF.mono (by decide) (by decide)).tr (hzu2.2.mono (by decide) (by decide)))
          have hI := h.keep (hF2.mono (by decide) (by decide)) (h.st.cp (fun i hi => (hzu2.1 i hi).trans ((congrFun (hF.1 9 (by decide) (by decide)) (0 + i)).trans (hzu1.1 i hi))))
          have hX2 := hX.fr (hzu2.2.1 12 (by decide) (by decide))
          refine g_iconst hR dX8_round_80 (g_istore_1 hR dX8_round_81 rfl ?_)
          have loop3 : ∀ (mm3 : Nat) (j : Nat), mm3 = 21 - j → 1 ≤ j → j ≤ 21 → seekP (rndC A) 20 1 = seekP (rndC A) (21 - j) j → G 82 [some (.ref (f_ad E 0)), some (.int (iI j)), x2] [] zu2 := by
            intro mm3
            induction mm3 using Nat.strongRecOn with
            | ind mm3 ih3 =>
              intro j hm3 hj hj2 hs
              refine g_iload_1 hR dX8_round_82 (g_bipush hR dX8_round_83 (by decide) (g_icmp_gt hR 104 dX8_round_85 (by decide) (by omega) (by omega) (fun zc85 => ?_) (fun zc85 => ?_)))
              · skip
                refine g_bipush hR dX8_round_104 (by decide) ?_
                rw [show 21 - j = 0 from by omega] at hs
                exact g_iret hR dX8_round_106 rfl (by unfold sp_round; rw [if_neg (by omega), hs]; rfl) hI
              · skip
                refine g_aload_0 hR dX8_round_88 (g_iload_1 hR dX8_round_89 (g_callV1P hR dX8_round_90 mlX8_202 (by decide) rfl rfl (C8_isRound hI ok hX2 (by omega) (p := j) (by omega)) (by decide) (Nat.le_of_ble_eq_true rfl) (g_if_eq hR 98 dX8_round_93 (by decide) (by split <;> omega) (fun zc93 => ?_) (fun zc93 => ?_))))
                · skip
                  refine g_iinc_1 hR dX8_round_98 rfl (g_goto hR 82 dX8_round_101 (by decide) ?_)
                  rw [seekP_no (by omega) (ifB zc93), show 21 - j - 1 = 21 - (j + 1) from by omega] at hs
                  exact ih3 (21 - (j + 1)) (by omega) (j + 1) rfl (by omega) (by omega) hs
                · skip
                  refine g_iload_1 hR dX8_round_96 ?_
                  rw [seekP_yes (by omega) (ifB1 zc93)] at hs
                  exact g_iret hR dX8_round_97 rfl (by unfold sp_round; rw [if_neg (by omega), hs]) hI
          exact loop3 20 1 rfl (by omega) (by omega) rfl
        · skip
          refine g_aload_0 hR dX8_round_22 (g_aload_0 hR dX8_round_23 (g_getI hR _ dX8_round_24 flX8_136 (by decide) rfl rfl ((hF.2 2 (by decide)).trans ((hzu1.2.2 2 (by decide)).trans h.hd.2.1)) (g_aload_0 hR dX8_round_27 (g_getI hR _ dX8_round_28 flX8_139 (by decide) rfl rfl ((hF.2 3 (by decide)).trans ((hzu1.2.2 3 (by decide)).trans h.hd.2.2)) (g_callV2Z hR dX8_round_31 mlX8_191 (by decide) rfl rfl (C8_runRow (L := AL A) (row := Lrow (AL A)) hS hL1 ok.L hw1 h61 hrw1 ((hF.2 5 (by decide)).trans ((hzu1.2.2 5 (by decide)).trans h.rn)) ok.L.2.2.1.2 hrl hs4 hf6) (by decide) (Nat.le_of_ble_eq_true rfl) (fun zu2 hzu2 => (g_pop hR dX8_round_34 rfl (g_iconst hR dX8_round_35 (g_istore_2 hR dX8_round_36 rfl ?_)))))))))
          have loop2 : ∀ (mm2 : Nat) (j : Nat) (v : f_Mem), mm2 = (Lrow (AL A)).length - j → j ≤ (Lrow (AL A)).length → (∀ i, i < j → v 12 (p * (Lrow (AL A)).length + i) = iI ((psD A p).getD i 0 : Nat)) → (∀ i, i < p * (Lrow (AL A)).length → v 12 i = zu2 12 i) → FrM [12] [] zu2 v → G 37 [some (.ref (f_ad E 0)), some (.int (iI p)), some (.int (iI j))] [] v := by
            intro mm2
            induction mm2 using Nat.strongRecOn with
            | ind mm2 ih2 =>
              intro j v hm2 hj2 hv1 hv2 hG
              have hM := Nat.mul_le_mul_right (Lrow (AL A)).length (show p ≤ 79 from by omega)
              have hd9 : (p : Int) * ((Lrow (AL A)).length : Nat) = ((p * (Lrow (AL A)).length : Nat) : Int) := rfl
              refine g_iload_2 hR dX8_round_37 (g_aload_0 hR dX8_round_38 (g_getI hR _ dX8_round_39 flX8_71 (by decide) rfl rfl ((hG.2 5 (by decide)).trans ((hzu2.2.2.2 5 (by decide)).trans ((hF.2 5 (by decide)).trans ((hzu1.2.2 5 (by decide)).trans h.rn)))) (g_icmp_ge hR 70 dX8_round_42 (by decide) (by omega) (by omega) (fun zc42 => ?_) (fun zc42 => ?_))))
              · skip
                refine g_iinc_1 hR dX8_round_70 rfl (g_goto hR 16 dX8_round_73 (by decide) ?_)
                obtain rfl : j = (Lrow (AL A)).length := by omega
                have hSv := hzu2.1.fr (hG.1 3 (by decide) (by decide))
                have e5 : (p + 1) * (Lrow (AL A)).length = p * (Lrow (AL A)).length + (Lrow (AL A)).length := by rw [Nat.add_mul, Nat.one_mul]
                refine ih (80 - (p + 1)) (by omega) (p + 1) v rfl (by omega) hSv (fun i hi => ?_) (hF.tr ((hzu2.2.2.mono (by decide) (by decide)).tr (hG.mono (by decide) (by decide)))) _
                by_cases q : i < p * (Lrow (AL A)).length
                · rw [hv2 i q, hzu2.2.2.1 12 (by decide) (by decide)]; exact hX i q
                · have := hv1 (i - p * (Lrow (AL A)).length) (by omega)
                  rw [← psX_at A (by omega), show p * (Lrow (AL A)).length + (i - p * (Lrow (AL A)).length) = i from by omega] at this
                  exact this
              · skip
                refine g_aload_0 hR dX8_round_45 (g_getR hR dX8_round_46 flX8_43 (by decide) rfl rfl (g_iload_1 hR dX8_round_49 (g_aload_0 hR dX8_round_50 (g_getI hR _ dX8_round_51 flX8_71 (by decide) rfl rfl ((hG.2 5 (by decide)).trans ((hzu2.2.2.2 5 (by decide)).trans ((hF.2 5 (by decide)).trans ((hzu1.2.2 5 (by decide)).trans h.rn)))) (g_imul hR dX8_round_54 (g_iload_2 hR dX8_round_55 (g_iadd hR dX8_round_56 (g_aload_0 hR dX8_round_57 (g_getR hR dX8_round_58 flX8_37 (by decide) rfl rfl (g_iload_2 hR dX8_round_61 (g_aldU hR _ dX8_round_62 (by decide) rfl (by decide) (by omega) (((congrFun (hG.1 10 (by decide) (by decide)) j).trans (hzu2.2.1 j (by omega)).1).trans (by rw [psU_1]; first | done | rfl)) (by omega) (g_astU hR (p * (Lrow (AL A)).length + j) dX8_round_63 (by decide) rfl (by decide) (by omega) (by omega) (fun zu3 hzu3 => (g_iinc_2 hR dX8_round_64 rfl (g_goto hR 37 dX8_round_67 (by decide) ?_)))))))))))))))
                refine ih2 ((Lrow (AL A)).length - (j + 1)) (by omega) (j + 1) zu3 rfl (by omega) (fun i hi => ?_) (fun i hi => (hzu3.2.1 i (by omega)).trans (hv2 i hi)) (hG.tr (FrM.ar hzu3 (by decide) (by decide)))
                by_cases q : i = j
                · rw [q]; exact hzu3.1
                · rw [hzu3.2.1 _ (by omega)]; exact hv1 i (by omega)
          exact loop2 (Lrow (AL A)).length 0 zu2 (by omega) (by omega) (fun i hi => absurd hi (by omega)) (fun _ _ => rfl) FrM.rf
    exact loop 80 0 zu1 (by omega) (by omega) (h.st.fr (hzu1.2.1 3 (by decide) (by decide))) (fun i hi => absurd hi (by omega)) FrM.rf _
  · skip
    refine g_bipush hR dX8_round_7 (by decide) ?_
    exact g_iret hR dX8_round_9 rfl (by unfold sp_round; rw [if_pos (by omega)]; skip) h
