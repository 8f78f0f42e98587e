theorem K_ask {E : f_E} {σ : f_Mem} {A : AS} (h : InvC σ A) (ok : ASOK A) {w : Int} (hw : -2147483648 ≤ w ∧ w < 2147483648) : FZ E sC mX7_ask 12 [.ref (f_ad E 0), .int (iI w)] σ (sp_ask A w) (fun u => InvC u A) := by
  have hK1 := ok.K1
  have hK6 := ok.K6
  have hkk : AK A = (Lm (AL A)).length := rfl
  have hb16 : fitsN A < 16 := bitsF_lt _ 4
  refine FZ.intro rfl (Nat.le_of_ble_eq_true rfl) (L0 := [some (.ref (f_ad E 0)), some (.int (iI w)), none, none, none, none, none]) rfl (fun G hR => ?_)
  refine g_iload_1 hR dX7_ask_0 (g_iconst hR dX7_ask_1 (g_iconst hR dX7_ask_2 (g_callS3P hR dX7_ask_3 mlX7_105 (C_isWithin hw (by omega) (by omega)) (by decide) (Nat.le_of_ble_eq_true rfl) (g_if_ne hR 11 dX7_ask_6 (by decide) (by split <;> omega) (fun c6 => ?_) (fun c6 => ?_)))))
  · skip
    refine g_aload_0 hR dX7_ask_11 (g_callV0Z hR dX7_ask_12 mlX7_230 (by decide) rfl rfl (K_fits h ok) (by decide) (Nat.le_of_ble_eq_true rfl) (fun u1 hu1 => ?_))
    have hI1 := hu1
    refine g_istore_2 hR dX7_ask_15 rfl (g_iload_2 hR dX7_ask_16 (g_if_ne hR 23 dX7_ask_17 (by decide) (by unfold sp_fits; omega) (fun c17 => ?_) (fun c17 => ?_)))
    · skip
      have hf0 : fitsN A ≠ 0 := by unfold sp_fits at c17; omega
      refine g_iconst hR dX7_ask_23 (g_istore_3 hR dX7_ask_24 rfl (g_iconst hR dX7_ask_25 (g_istore_4 hR dX7_ask_26 rfl (g_iconst hR dX7_ask_28 (g_istore_5 hR dX7_ask_29 rfl ?_)))))
      have loop : ∀ (mm : Nat) (j : Nat) (u : f_Mem), mm = AK A - j → j ≤ AK A → InvC u A → ∀ x6 : Option Value, G 31 [some (.ref (f_ad E 0)), some (.int (iI w)), some (.int (iI (fitsN A : Nat))), some (.int (iI ((amn (fun k => mx6 (cntA (gA A (fitsN A) k) 4)) j).1 : Nat))), some (.int (iI ((amn (fun k => mx6 (cntA (gA A (fitsN A) k) 4)) j).2 : Nat))), some (.int (iI j)), x6] [] u := by
        intro mm
        induction mm using Nat.strongRecOn with
        | ind mm ih =>
          intro j u hm hj hI x6
          have ha9 := amn_le (fun k => mx6 (cntA (gA A (fitsN A) k) 4)) j
          have hm9 := mx6_le (cntA_le (gA A (fitsN A) j) 4)
          refine g_iload_5 hR dX7_ask_31 (g_aload_0 hR dX7_ask_33 (g_getR hR dX7_ask_34 flX7_34 (by decide) rfl rfl (g_callV0P hR dX7_ask_37 mlX7_116 sh_laid.lt sh_laid.obj rfl (C_kinds hI.L) (by decide) (Nat.le_of_ble_eq_true rfl) (g_icmp_ge hR 72 dX7_ask_40 (by decide) (by omega) (by omega) (fun c40 => ?_) (fun c40 => ?_)))))
          · skip
            refine g_iload_1 hR dX7_ask_72 (g_if_ne hR 80 dX7_ask_73 (by decide) (by omega) (fun c73 => ?_) (fun c73 => ?_))
            · skip
              refine g_iload_4 hR dX7_ask_80 ?_
              exact g_iret hR dX7_ask_82 rfl (by unfold sp_ask; rw [if_pos (by omega), if_neg hf0, if_neg (by omega)]; rw [show j = AK A from by omega]) hI
            · skip
              refine g_iload_3 hR dX7_ask_76 (g_goto hR 82 dX7_ask_77 (by decide) ?_)
              exact g_iret hR dX7_ask_82 rfl (by unfold sp_ask; rw [if_pos (by omega), if_neg hf0, if_pos (by omega)]; rw [show j = AK A from by omega]) hI
          · skip
            refine g_aload_0 hR dX7_ask_43 (g_iload_2 hR dX7_ask_44 (g_iload_5 hR dX7_ask_45 (g_callV2Z hR dX7_ask_47 mlX7_233 (by decide) rfl rfl (C_mostAlike hI ok (bits := fitsN A) (k := j) hb16 (by omega)) (by decide) (Nat.le_of_ble_eq_true rfl) (fun u1 hu1 => (g_istore_6 hR dX7_ask_50 rfl (g_iload_6 hR dX7_ask_52 (g_iload_4 hR dX7_ask_54 (g_icmp_ge hR 66 dX7_ask_56 (by decide) (by omega) (by omega) (fun c56 => ?_) (fun c56 => ?_)))))))))
            · skip
              have e9 : amn (fun k => mx6 (cntA (gA A (fitsN A) k) 4)) (j + 1) = amn (fun k => mx6 (cntA (gA A (fitsN A) k) 4)) j := by simp only [amn]; rw [if_neg (by omega)]
              refine g_iinc_5 hR dX7_ask_66 rfl (g_goto hR 31 dX7_ask_69 (by decide) ?_)
              have h9 := ih (AK A - (j + 1)) (by omega) (j + 1) u1 rfl (by omega) hu1
              rw [e9] at h9
              exact h9 _
            · skip
              have e9 : amn (fun k => mx6 (cntA (gA A (fitsN A) k) 4)) (j + 1) = (j, mx6 (cntA (gA A (fitsN A) j) 4)) := by simp only [amn]; rw [if_pos (by omega)]
              refine g_iload_6 hR dX7_ask_59 (g_istore_4 hR dX7_ask_61 rfl (g_iload_5 hR dX7_ask_63 (g_istore_3 hR dX7_ask_65 rfl (g_iinc_5 hR dX7_ask_66 rfl (g_goto hR 31 dX7_ask_69 (by decide) ?_)))))
              have h9 := ih (AK A - (j + 1)) (by omega) (j + 1) u1 rfl (by omega) hu1
              rw [e9] at h9
              exact h9 _
      exact loop (AK A) 0 u1 (by omega) (by omega) hI1 _
    · skip
      have hf0 : fitsN A = 0 := by unfold sp_fits at c17; omega
      refine g_bipush hR dX7_ask_20 (by decide) ?_
      exact g_iret hR dX7_ask_22 rfl (by unfold sp_ask; rw [if_pos (by omega), if_pos hf0]; skip) hI1
  · skip
    refine g_iconst hR dX7_ask_9 ?_
    exact g_iret hR dX7_ask_10 rfl (by unfold sp_ask; rw [if_neg (by omega)]; skip) h

theorem seekP_rng (c : Nat → Bool) : ∀ n p, -4 ≤ seekP c n p ∧ seekP c n p < p + n + 1
  | 0, p => by simp only [seekP]; omega
  | n + 1, p => by
    have := seekP_rng c n (p + 1)
    simp only [seekP]; split <;> omega

theorem K_rule {E : f_E} {σ : f_Mem} {A : AS} (h : InvC σ A) (ok : ASOK A) {d : Int} (hd : -2147483648 ≤ d ∧ d < 2147483648) : FZ E sC mX7_rule 12 [.ref (f_ad E 0), .int (iI d)] σ (sp_rule A d) (fun u => InvC u A) := by
  have hK1 := ok.K1
  have hK6 := ok.K6
  have hkk : AK A = (Lm (AL A)).length := rfl
  refine FZ.intro rfl (Nat.le_of_ble_eq_true rfl) (L0 := [some (.ref (f_ad E 0)), some (.int (iI d)), none, none, none, none]) rfl (fun G hR => ?_)
  refine g_iload_1 hR dX7_rule_0 (g_callS1P hR dX7_rule_1 mlX7_181 (C_isDoing hd) (by decide) (Nat.le_of_ble_eq_true rfl) (g_if_ne hR 9 dX7_rule_4 (by decide) (by split <;> omega) (fun c4 => ?_) (fun c4 => ?_)))
  · skip
    obtain ⟨dq, rfl⟩ : ∃ dq : Nat, d = dq := ⟨d.toNat, by omega⟩
    refine g_bipush hR dX7_rule_9 (by decide) (g_istore_2 hR dX7_rule_11 rfl (g_ldc hR (1000000) dX7_rule_12 kcX7_236 (by decide) (g_istore_3 hR dX7_rule_14 rfl (g_iconst hR dX7_rule_15 (g_istore_4 hR dX7_rule_16 rfl ?_)))))
    have loop : ∀ (mm : Nat) (j : Nat), mm = 32 - j → j ≤ 32 → ∀ x5 : Option Value, G 18 [some (.ref (f_ad E 0)), some (.int (iI dq)), some (.int (iI (ruF (ruC (AL A) dq) j).1)), some (.int (iI ((ruF (ruC (AL A) dq) j).2 : Nat))), some (.int (iI j)), x5] [] σ := by
      intro mm
      induction mm using Nat.strongRecOn with
      | ind mm ih =>
        intro j hm hj x5
        refine g_iload_4 hR dX7_rule_18 (g_bipush hR dX7_rule_20 (by decide) (g_icmp_ge hR 76 dX7_rule_22 (by decide) (by omega) (by omega) (fun c22 => ?_) (fun c22 => ?_)))
        · skip
          refine g_iload_2 hR dX7_rule_76 ?_
          have e : j = 32 := by omega
          subst e
          exact g_iret hR dX7_rule_77 rfl (by unfold sp_rule; rw [if_pos (by omega)]; rfl) h
        · skip
          have hpc := pc5_le j
          have hru := ruF_le (ruC (AL A) dq) j
          refine g_iload_4 hR dX7_rule_25 (g_callS1P hR dX7_rule_27 mlX7_237 (C_bitCount (n := j) (by omega)) (by decide) (Nat.le_of_ble_eq_true rfl) (g_istore_5 hR dX7_rule_30 rfl (g_iload_5 hR dX7_rule_32 (g_iload_3 hR dX7_rule_34 (g_icmp_ge hR 70 dX7_rule_35 (by decide) (by omega) (by omega) (fun c35 => ?_) (fun c35 => ?_))))))
          · skip
            have e9 : ruF (ruC (AL A) dq) (j + 1) = ruF (ruC (AL A) dq) j := by simp only [ruF]; rw [if_neg (fun z => by omega)]
            refine g_iinc_4 hR dX7_rule_70 rfl (g_goto hR 18 dX7_rule_73 (by decide) ?_)
            have h9 := ih (32 - (j + 1)) (by omega) (j + 1) rfl (by omega)
            rw [e9] at h9
            exact h9 _
          · skip
            refine g_aload_0 hR dX7_rule_38 (g_iload_1 hR dX7_rule_39 (g_iload_4 hR dX7_rule_40 (g_iconst hR dX7_rule_42 (g_callV3P hR dX7_rule_43 mlX7_242 (by decide) rfl rfl (show FZ E sC mX7_firstWrong 2 [.ref (f_ad E 0), .int (iI dq), .int (iI j), .int (iI 0)] σ (seekP (wrC (AL A) dq j false) (AK A) 0) (fun u => u = σ) from C_firstWrong h ok (d := dq) (m := j) (b := 0) (by omega) (by omega) (by omega)) (by decide) (Nat.le_of_ble_eq_true rfl) (g_bipush hR dX7_rule_46 (by decide) (g_icmp_ne hR 70 dX7_rule_48 (by decide) (by have := seekP_rng (wrC (AL A) dq j false) (AK A) 0; omega) (by omega) (fun c48 => ?_) (fun c48 => ?_)))))))
            · skip
              have e9 : ruF (ruC (AL A) dq) (j + 1) = ruF (ruC (AL A) dq) j := by simp only [ruF]; rw [if_neg (fun z => by
                          have z2 := z.2
                          unfold ruC at z2
                          rw [decide_eq_false (p := seekP (wrC (AL A) dq j false) (Lm (AL A)).length 0 = -4) (fun y => c48 y)] at z2
                          cases z2)]
              refine g_iinc_4 hR dX7_rule_70 rfl (g_goto hR 18 dX7_rule_73 (by decide) ?_)
              have h9 := ih (32 - (j + 1)) (by omega) (j + 1) rfl (by omega)
              rw [e9] at h9
              exact h9 _
            · skip
              refine g_aload_0 hR dX7_rule_51 (g_iload_1 hR dX7_rule_52 (g_iload_4 hR dX7_rule_53 (g_iconst hR dX7_rule_55 (g_callV3P hR dX7_rule_56 mlX7_242 (by decide) rfl rfl (show FZ E sC mX7_firstWrong 2 [.ref (f_ad E 0), .int (iI dq), .int (iI j), .int (iI 1)] σ (seekP (wrC (AL A) dq j true) (AK A) 0) (fun u => u = σ) from C_firstWrong h ok (d := dq) (m := j) (b := 1) (by omega) (by omega) (by omega)) (by decide) (Nat.le_of_ble_eq_true rfl) (g_bipush hR dX7_rule_59 (by decide) (g_icmp_ne hR 70 dX7_rule_61 (by decide) (by have := seekP_rng (wrC (AL A) dq j true) (AK A) 0; omega) (by omega) (fun c61 => ?_) (fun c61 => ?_)))))))
              · skip
                have e9 : ruF (ruC (AL A) dq) (j + 1) = ruF (ruC (AL A) dq) j := by simp only [ruF]; rw [if_neg (fun z => by
                            have z2 := z.2
                            unfold ruC at z2
                            rw [decide_eq_false (p := seekP (wrC (AL A) dq j true) (Lm (AL A)).length 0 = -4) (fun y => c61 y), Bool.and_false] at z2
                            cases z2)]
                refine g_iinc_4 hR dX7_rule_70 rfl (g_goto hR 18 dX7_rule_73 (by decide) ?_)
                have h9 := ih (32 - (j + 1)) (by omega) (j + 1) rfl (by omega)
                rw [e9] at h9
                exact h9 _
              · skip
                have e9 : ruF (ruC (AL A) dq) (j + 1) = (((j : Nat) : Int), pc5 j) := by simp only [ruF]; rw [if_pos ⟨by omega, by unfold ruC; rw [decide_eq_true (p := seekP (wrC (AL A) dq j false) (Lm (AL A)).length 0 = -4) c48, decide_eq_true (p := seekP (wrC (AL A) dq j true) (Lm (AL A)).length 0 = -4) c61]; rfl⟩]
                refine g_iload_5 hR dX7_rule_64 (g_istore_3 hR dX7_rule_66 rfl (g_iload_4 hR dX7_rule_67 (g_istore_2 hR dX7_rule_69 rfl (g_iinc_4 hR dX7_rule_70 rfl (g_goto hR 18 dX7_rule_73 (by decide) ?_)))))
                have h9 := ih (32 - (j + 1)) (by omega) (j + 1) rfl (by omega)
                rw [e9] at h9
                exact h9 _
    exact loop 32 0 (by omega) (by omega) _
  · skip
    refine g_iconst hR dX7_rule_7 ?_
    exact g_iret hR dX7_rule_8 rfl (by unfold sp_rule; rw [if_neg (by omega)]; skip) h
theorem K_best {E : f_E} {σ : f_Mem} {A : AS} (h : InvC σ A) (ok : ASOK A) {w : Int} (hw : -2147483648 ≤ w ∧ w < 2147483648) : FZ E sC mX7_best 12 [.ref (f_ad E 0), .int (iI w)] σ (sp_best A w) (fun u => InvC u A) := by
  have hK1 := ok.K1
  have hK6 := ok.K6
  have hkk : AK A = (Lm (AL A)).length := rfl
  have hwl := ok.wl
  have hrl := ok.L.rl
  have hl0 : loss0 A ≤ 300 := Nat.le_trans (runL_le ok.L _ _ _ _) (by omega)
  have hlw : ∀ v, lossW A v ≤ 300 := fun v => Nat.le_trans (runL_le ok.L _ _ _ _) (by omega)
  refine FZ.intro rfl (Nat.le_of_ble_eq_true rfl) (L0 := [some (.ref (f_ad E 0)), some (.int (iI w)), none, none, none, none, none, none]) rfl (fun G hR => ?_)
  refine g_iload_1 hR dX7_best_0 (g_iconst hR dX7_best_1 (g_iconst hR dX7_best_2 (g_callS3P hR dX7_best_3 mlX7_105 (C_isWithin hw (by omega) (by omega)) (by decide) (Nat.le_of_ble_eq_true rfl) (g_if_ne hR 11 dX7_best_6 (by decide) (by split <;> omega) (fun c6 => ?_) (fun c6 => ?_)))))
  · skip
    refine g_bipush hR dX7_best_11 (by decide) (g_istore_2 hR dX7_best_13 rfl (g_aload_0 hR dX7_best_14 (g_aload_0 hR dX7_best_15 (g_getR hR dX7_best_16 flX7_34 (by decide) rfl rfl (g_getI hR _ dX7_best_19 flX7_167 sh_laid.lt sh_laid.obj rfl h.L.sort (g_callV1R hR dX7_best_22 mlX7_160 (by decide) rfl rfl (C_learnerNow h ok ok.L.s) (by decide) (Nat.le_of_ble_eq_true rfl) (fun u1 hu1 => ?_)))))))
    have hI1 := h.l0 hu1.2 hu1.1.x
    refine g_callV0Z hR dX7_best_25 mlX7_192 sh_lrn0.lt sh_lrn0.obj rfl (C_lossOfRow hu1.1 hI1.L ok.L ok.w ok.L.s ok.L.f (by omega) (by omega)) (by decide) (Nat.le_of_ble_eq_true rfl) (fun u2 hu2 => ?_)
    have hI2 := hI1.l0 hu2.2 hu2.1.x
    refine g_istore_3 hR dX7_best_28 rfl (g_iconst hR dX7_best_29 (g_istore_4 hR dX7_best_30 rfl ?_))
    have outer : ∀ (mm k : Nat) (u : f_Mem), mm = AK A - k → k ≤ AK A → InvC u A → ∀ x5 x6 x7 : Option Value, G 32 [some (.ref (f_ad E 0)), some (.int (iI w)), some (.int (iI (bsF (lossW A) (loss0 A) (6 * k)).1)), some (.int (iI ((bsF (lossW A) (loss0 A) (6 * k)).2 : Nat))), some (.int (iI k)), x5, x6, x7] [] u := by
      intro mm
      induction mm using Nat.strongRecOn with
      | ind mm ih0 =>
        intro k u hm0 hk0 hI0 x5 x6 x7
        have hb0 := bsF_le (f := lossW A) (b := loss0 A) (m := 300) hlw hl0 (6 * k)
        refine g_iload_4 hR dX7_best_32 (g_aload_0 hR dX7_best_34 (g_getR hR dX7_best_35 flX7_34 (by decide) rfl rfl (g_callV0P hR dX7_best_38 mlX7_116 sh_laid.lt sh_laid.obj rfl (C_kinds hI0.L) (by decide) (Nat.le_of_ble_eq_true rfl) (g_icmp_ge hR 112 dX7_best_41 (by decide) (by omega) (by omega) (fun c41 => ?_) (fun c41 => ?_)))))
        · skip
          refine g_iload_1 hR dX7_best_112 (g_if_ne hR 120 dX7_best_113 (by decide) (by omega) (fun c113 => ?_) (fun c113 => ?_))
          · skip
            refine g_iload_3 hR dX7_best_120 ?_
            exact g_iret hR dX7_best_121 rfl (by unfold sp_best; rw [if_pos (by omega), if_neg (by omega)]; rw [show k = AK A from by omega]) hI0
          · skip
            refine g_iload_2 hR dX7_best_116 (g_goto hR 121 dX7_best_117 (by decide) ?_)
            exact g_iret hR dX7_best_121 rfl (by unfold sp_best; rw [if_pos (by omega), if_pos (by omega)]; rw [show k = AK A from by omega]) hI0
        · skip
          refine g_iconst hR dX7_best_44 (g_istore_5 hR dX7_best_45 rfl ?_)
          have inner : ∀ (mm : Nat) (j : Nat) (u : f_Mem), mm = 6 - j → j ≤ 6 → InvC u A → ∀ x6 x7 : Option Value, G 47 [some (.ref (f_ad E 0)), some (.int (iI w)), some (.int (iI (bsF (lossW A) (loss0 A) (6 * k + j)).1)), some (.int (iI ((bsF (lossW A) (loss0 A) (6 * k + j)).2 : Nat))), some (.int (iI k)), some (.int (iI j)), x6, x7] [] u := by
            intro mm
            induction mm using Nat.strongRecOn with
            | ind mm ih =>
              intro j u hm hj hI x6 x7
              have hb9 := bsF_le (f := lossW A) (b := loss0 A) (m := 300) hlw hl0 (6 * k + j)
              refine g_iload_5 hR dX7_best_47 (g_bipush hR dX7_best_49 (by decide) (g_icmp_ge hR 106 dX7_best_51 (by decide) (by omega) (by omega) (fun c51 => ?_) (fun c51 => ?_)))
              · skip
                have e : j = 6 := by omega
                subst e
                refine g_iinc_4 hR dX7_best_106 rfl (g_goto hR 32 dX7_best_109 (by decide) ?_)
                exact ih0 (AK A - (k + 1)) (by omega) (k + 1) u rfl (by omega) hI _ _ _
              · skip
                refine g_aload_0 hR dX7_best_54 (g_aload_0 hR dX7_best_55 (g_getR hR dX7_best_56 flX7_34 (by decide) rfl rfl (g_getI hR _ dX7_best_59 flX7_167 sh_laid.lt sh_laid.obj rfl hI.L.sort (g_callV1R hR dX7_best_62 mlX7_160 (by decide) rfl rfl (C_learnerNow hI ok ok.L.s) (by decide) (Nat.le_of_ble_eq_true rfl) (fun u1 hu1 => ?_)))))
                have hJ1 := hI.l0 hu1.2 hu1.1.x
                refine g_astore_6 hR dX7_best_65 rfl (g_aload_6 hR dX7_best_67 (g_iload_4 hR dX7_best_69 (g_iload_5 hR dX7_best_71 (g_callV2V hR dX7_best_73 mlX7_217 sh_lrn0.lt sh_lrn0.obj rfl (C_hear hu1.1 (k := k) (d := j) (by omega) (by omega)) (by decide) (Nat.le_of_ble_eq_true rfl) (fun u2 hu2 => ?_)))))
                have hJ2 := hJ1.l0 hu2.2 hu2.1.x
                have hWok : WOK (AL A) ((6 * k + j) :: (AM A).1) := ok.w.cons (by omega) (by omega)
                refine g_aload_6 hR dX7_best_76 (g_callV0Z hR dX7_best_78 mlX7_192 sh_lrn0.lt sh_lrn0.obj rfl (C_lossOfRow hu2.1 hJ2.L ok.L hWok ok.L.s ok.L.f (by simp; omega) (by omega)) (by decide) (Nat.le_of_ble_eq_true rfl) (fun u3 hu3 => ?_))
                have hJ3 := hJ2.l0 hu3.2 hu3.1.x
                have hlwj := hlw (6 * k + j)
                have hdf : lossW A (6 * k + j) = runL (AL A) (Lsort (AL A)) (Lfirst (AL A)) (Lrow (AL A)) ((6 * k + j) :: (AM A).1) := rfl
                refine g_istore_7 hR dX7_best_81 rfl (g_iload_7 hR dX7_best_83 (g_iload_3 hR dX7_best_85 (g_icmp_ge hR 100 dX7_best_86 (by decide) (by omega) (by omega) (fun c86 => ?_) (fun c86 => ?_))))
                · skip
                  have e9 : (bsF (lossW A) (loss0 A) (6 * k + (j + 1))) = (bsF (lossW A) (loss0 A) (6 * k + j)) := by
                    rw [show 6 * k + (j + 1) = (6 * k + j) + 1 from by omega]
                    simp only [bsF]; rw [if_neg (by omega)]
                  refine g_iinc_5 hR dX7_best_100 rfl (g_goto hR 47 dX7_best_103 (by decide) ?_)
                  have h9 := ih (6 - (j + 1)) (by omega) (j + 1) u3 rfl (by omega) hJ3
                  rw [e9] at h9
                  exact h9 _ _
                · skip
                  have e9 : (bsF (lossW A) (loss0 A) (6 * k + (j + 1))) = (((6 * k + j : Nat) : Int), lossW A (6 * k + j)) := by
                    rw [show 6 * k + (j + 1) = (6 * k + j) + 1 from by omega]
                    simp only [bsF]; rw [if_pos (by omega)]
                  refine g_iload_7 hR dX7_best_89 (g_istore_3 hR dX7_best_91 rfl (g_iload_4 hR dX7_best_92 (g_iload_5 hR dX7_best_94 (g_callS2P hR dX7_best_96 mlX7_220 (C_wordOf (k := k) (d := j)) (by decide) (Nat.le_of_ble_eq_true rfl) (g_istore_2 hR dX7_best_99 rfl (g_iinc_5 hR dX7_best_100 rfl (g_goto hR 47 dX7_best_103 (by decide) ?_)))))))
                  have h9 := ih (6 - (j + 1)) (by omega) (j + 1) u3 rfl (by omega) hJ3
                  rw [e9] at h9
                  exact h9 _ _
          exact inner 6 0 u (by omega) (by omega) hI0 _ _
    exact outer (AK A) 0 u2 (by omega) (by omega) hI2 _ _ _
  · skip
    refine g_iconst hR dX7_best_9 ?_
    exact g_iret hR dX7_best_10 rfl (by unfold sp_best; rw [if_neg (by omega)]; skip) h
