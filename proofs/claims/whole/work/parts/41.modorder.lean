
theorem RwM.swp {σ u v : f_Mem} {e : List Nat} {a b : Nat} (h : RwM σ 2 e) (ha : a < e.length) (hb : b < e.length) (h1 : Wr σ u 2 a (iI (e.getD b 0 : Nat))) (h2 : Wr u v 2 b (iI (e.getD a 0 : Nat))) : RwM v 2 (swp e a b) := fun i hi => by
  rw [swp_len] at hi
  rw [swp_get ha hb]
  by_cases q : i = b
  · rw [if_pos q, q, h2.1]
  · rw [if_neg q, h2.2.1 i q]
    by_cases z : i = a
    · rw [if_pos z, z, h1.1]
    · rw [if_neg z, h1.2.1 i z]; exact h i hi
def nxB (e : List Nat) : Bool := (List.range (e.length - 1)).any (fun i => decide (e.getD i 0 < e.getD (i + 1) 0))
theorem nxB_yes {e : List Nat} {i : Nat} (hi : i + 1 < e.length) (h : e.getD i 0 < e.getD (i + 1) 0) : nxB e = true := List.any_eq_true.mpr ⟨i, List.mem_range.mpr (by omega), decide_eq_true h⟩
theorem nxB_no {e : List Nat} (h : ∀ i, i + 1 < e.length → e.getD (i + 1) 0 ≤ e.getD i 0) : nxB e = false := by
  cases q : nxB e with
  | false => rfl
  | true =>
    obtain ⟨i, hi, hd⟩ := List.any_eq_true.mp q
    have := List.mem_range.mp hi
    have := of_decide_eq_true hd
    have := h i (by omega)
    omega
theorem nxB_no2 {e : List Nat} (h : nxB e = false) (i : Nat) (hi : i + 1 < e.length) : e.getD (i + 1) 0 ≤ e.getD i 0 := Decidable.byContradiction (fun q => by
  have := nxB_yes hi (by omega)
  rw [h] at this; cases this)

theorem C8_exchange {E : f_E} {σ : f_Mem} {e : List Nat} (he : RwM σ 2 e) (hl : e.length ≤ 10) {a b : Nat} (ha : a < e.length) (hb : b < e.length) : FV E sM mX8_exchange 0 [.ref (f_ad E 0), .int (iI a), .int (iI b)] σ (fun u => RwM u 2 (swp e a b) ∧ FrM [2] [] σ u) := by
  refine FV.intro rfl (Nat.le_of_ble_eq_true rfl) (L0 := [some (.ref (f_ad E 0)), some (.int (iI a)), some (.int (iI b)), none]) rfl (fun G hR => ?_)
  refine g_aload_0 hR dX8_exchange_0 (g_getR hR dX8_exchange_1 flX8_13 (by decide) rfl rfl (g_iload_1 hR dX8_exchange_4 (g_aldU hR _ dX8_exchange_5 (by decide) rfl (by decide) (by omega) (he a ha) (by omega) (g_istore_3 hR dX8_exchange_6 rfl (g_aload_0 hR dX8_exchange_7 (g_getR hR dX8_exchange_8 flX8_13 (by decide) rfl rfl (g_iload_1 hR dX8_exchange_11 (g_aload_0 hR dX8_exchange_12 (g_getR hR dX8_exchange_13 flX8_13 (by decide) rfl rfl (g_iload_2 hR dX8_exchange_16 (g_aldU hR _ dX8_exchange_17 (by decide) rfl (by decide) (by omega) (he b hb) (by omega) (g_astU hR (a) dX8_exchange_18 (by decide) rfl (by decide) (by omega) (by omega) (fun zu1 hzu1 => (g_aload_0 hR dX8_exchange_19 (g_getR hR dX8_exchange_20 flX8_13 (by decide) rfl rfl (g_iload_2 hR dX8_exchange_23 (g_iload_3 hR dX8_exchange_24 (g_astU hR (b) dX8_exchange_25 (by decide) rfl (by decide) (by omega) (by omega) (fun zu2 hzu2 => ?_)))))))))))))))))))
  exact g_vret hR dX8_exchange_26 rfl ⟨he.swp ha hb hzu1 hzu2, (FrM.ar hzu1 (by decide) (by decide)).tr (FrM.ar hzu2 (by decide) (by decide))⟩
theorem C8_nextRow {E : f_E} {σ : f_Mem} {e : List Nat} (he : RwM σ 2 e) (h5 : σ 0 5 = iI (e.length : Nat)) (hl : e.length ≤ 10) (h6 : ∀ k ∈ e, k < 6) : FZ E sM mX8_nextRow 1 [.ref (f_ad E 0)] σ (if nxB e = true then 1 else 0) (fun u => (nxB e = true → ∃ e2, RwM u 2 e2 ∧ Nxt e e2) ∧ (nxB e = false → RwM u 2 e) ∧ FrM [2] [] σ u) := by
  have hg := getD_lt h6 (by decide)
  refine FZ.intro rfl (Nat.le_of_ble_eq_true rfl) (L0 := [some (.ref (f_ad E 0)), none, none, none, none]) rfl (fun G hR => ?_)
  refine g_aload_0 hR dX8_nextRow_0 (g_getI hR _ dX8_nextRow_1 flX8_71 (by decide) rfl rfl h5 (g_iconst hR dX8_nextRow_4 (g_isub hR dX8_nextRow_5 (g_istore_1 hR dX8_nextRow_6 rfl ?_))))
  by_cases hn : e.length = 0
  · skip
    refine g_iload_1 hR dX8_nextRow_7 (g_if_lt hR 34 dX8_nextRow_8 (by decide) (by omega) (fun zc8 => ?_) (fun zc8 => ?_))
    · skip
      refine g_iload_1 hR dX8_nextRow_34 (g_if_ge hR 40 dX8_nextRow_35 (by decide) (by omega) (fun zc35 => ?_) (fun zc35 => ?_))
      · skip
        exact absurd zc35 (by omega)
      · skip
        refine g_iconst hR dX8_nextRow_38 ?_
        have en : nxB e = false := nxB_no (fun i hi => by omega)
        exact g_zret hR dX8_nextRow_39 rfl (Or.inl rfl) (by rw [en]; rfl) ⟨fun q => (by rw [en] at q; cases q), fun _ => he, FrM.rf⟩
    · skip
      exact absurd zc8 (by omega)
  · skip
    have loop : ∀ (mm : Nat) (p : Nat), mm = p → p ≤ e.length - 1 → (∀ i, p ≤ i → i + 1 < e.length → e.getD (i + 1) 0 ≤ e.getD i 0) → G 7 [some (.ref (f_ad E 0)), some (.int (iI ((p : Int) - 1))), none, none, none] [] σ := by
      intro mm
      induction mm using Nat.strongRecOn with
      | ind mm ih =>
        intro p hm hpl hp
        refine g_iload_1 hR dX8_nextRow_7 (g_if_lt hR 34 dX8_nextRow_8 (by decide) (by omega) (fun zc8 => ?_) (fun zc8 => ?_))
        · skip
          refine g_iload_1 hR dX8_nextRow_34 (g_if_ge hR 40 dX8_nextRow_35 (by decide) (by omega) (fun zc35 => ?_) (fun zc35 => ?_))
          · skip
            exact absurd zc35 (by omega)
          · skip
            refine g_iconst hR dX8_nextRow_38 ?_
            obtain rfl : p = 0 := by omega
            have en : nxB e = false := nxB_no (fun i hi => hp i (by omega) hi)
            exact g_zret hR dX8_nextRow_39 rfl (Or.inl rfl) (by rw [en]; rfl) ⟨fun q => (by rw [en] at q; cases q), fun _ => he, FrM.rf⟩
        · skip
          refine g_aload_0 hR dX8_nextRow_11 (g_getR hR dX8_nextRow_12 flX8_13 (by decide) rfl rfl (g_iload_1 hR dX8_nextRow_15 (g_aldU hR _ dX8_nextRow_16 (by decide) rfl (by decide) (by omega) (he (p - 1) (by omega)) (by omega) (g_aload_0 hR dX8_nextRow_17 (g_getR hR dX8_nextRow_18 flX8_13 (by decide) rfl rfl (g_iload_1 hR dX8_nextRow_21 (g_iconst hR dX8_nextRow_22 (g_iadd hR dX8_nextRow_23 (g_aldU hR _ dX8_nextRow_24 (by decide) rfl (by decide) (by omega) (he p (by omega)) (by omega) (g_icmp_lt hR 34 dX8_nextRow_25 (by decide) (by have := hg (p - 1); omega) (by have := hg p; omega) (fun zc25 => ?_) (fun zc25 => ?_)))))))))))
          · skip
            obtain ⟨k, rfl⟩ : ∃ k, p = k + 1 := ⟨p - 1, by omega⟩
            rw [show (((k + 1 : Nat) : Int) - 1) = (k : Int) from by omega]
            rw [show k + 1 - 1 = k from by omega] at zc25
            refine g_iload_1 hR dX8_nextRow_34 (g_if_ge hR 40 dX8_nextRow_35 (by decide) (by omega) (fun zc35 => ?_) (fun zc35 => ?_))
            · skip
              refine g_aload_0 hR dX8_nextRow_40 (g_getI hR _ dX8_nextRow_41 flX8_71 (by decide) rfl rfl h5 (g_iconst hR dX8_nextRow_44 (g_isub hR dX8_nextRow_45 (g_istore_2 hR dX8_nextRow_46 rfl ?_))))
              have loop2 : ∀ (mm2 : Nat) (q : Nat), mm2 = q → k < q → q < e.length → (∀ i, q < i → i < e.length → e.getD i 0 ≤ e.getD k 0) → G 47 [some (.ref (f_ad E 0)), some (.int (iI k)), some (.int (iI q)), none, none] [] σ := by
                intro mm2
                induction mm2 using Nat.strongRecOn with
                | ind mm2 ih2 =>
                  intro q hm2 hq1 hq3 hq2
                  refine g_aload_0 hR dX8_nextRow_47 (g_getR hR dX8_nextRow_48 flX8_13 (by decide) rfl rfl (g_iload_2 hR dX8_nextRow_51 (g_aldU hR _ dX8_nextRow_52 (by decide) rfl (by decide) (by omega) (he q (by omega)) (by omega) (g_aload_0 hR dX8_nextRow_53 (g_getR hR dX8_nextRow_54 flX8_13 (by decide) rfl rfl (g_iload_1 hR dX8_nextRow_57 (g_aldU hR _ dX8_nextRow_58 (by decide) rfl (by decide) (by omega) (he k (by omega)) (by omega) (g_icmp_gt hR 68 dX8_nextRow_59 (by decide) (by have := hg q; omega) (by have := hg k; omega) (fun zc59 => ?_) (fun zc59 => ?_)))))))))
                  · skip
                    refine g_aload_0 hR dX8_nextRow_68 (g_iload_1 hR dX8_nextRow_69 (g_iload_2 hR dX8_nextRow_70 (g_callV2V hR dX8_nextRow_71 mlX8_205 (by decide) rfl rfl (C8_exchange he hl (a := k) (b := q) (by omega) (by omega)) (by decide) (Nat.le_of_ble_eq_true rfl) (fun u1 hu1 => (g_aload_0 hR dX8_nextRow_74 (g_getI hR _ dX8_nextRow_75 flX8_71 (by decide) rfl rfl ((hu1.2.2 5 (by decide)).trans h5) (g_iconst hR dX8_nextRow_78 (g_isub hR dX8_nextRow_79 (g_istore_3 hR dX8_nextRow_80 rfl (g_iload_1 hR dX8_nextRow_81 (g_iconst hR dX8_nextRow_82 (g_iadd hR dX8_nextRow_83 (g_istore_4 hR dX8_nextRow_84 rfl ?_)))))))))))))
                    have loop3 : ∀ (mm3 : Nat) (t : Nat) (ei : List Nat) (v : f_Mem), mm3 = e.length - t → k + t < e.length → RwM v 2 ei → PC e ei → (∀ i, i ≤ k → ei.getD i 0 = (swp e k q).getD i 0) → (∀ i, k < i → i < e.length → ei.getD i 0 = if i < k + 1 + t ∨ e.length - 1 - t < i then (swp e k q).getD (e.length + k - i) 0 else (swp e k q).getD i 0) → FrM [2] [] σ v → G 86 [some (.ref (f_ad E 0)), some (.int (iI k)), some (.int (iI q)), some (.int (iI (e.length - 1 - t : Nat))), some (.int (iI (k + 1 + t : Nat)))] [] v := by
                      intro mm3
                      induction mm3 using Nat.strongRecOn with
                      | ind mm3 ih3 =>
                        intro t ei v hm3 ht hv hpc hi1 hi2 hF3
                        refine g_iload_4 hR dX8_nextRow_86 (g_iload_3 hR dX8_nextRow_88 (g_icmp_ge hR 108 dX8_nextRow_89 (by decide) (by omega) (by omega) (fun zc89 => ?_) (fun zc89 => ?_)))
                        · skip
                          refine g_iconst hR dX8_nextRow_108 ?_
                          have hw : ∀ i, k < i → i < e.length → ei.getD i 0 = (swp e k q).getD (e.length + k - i) 0 := fun i h1 h2 => by
                            rw [hi2 i h1 h2]
                            by_cases z : i < k + 1 + t ∨ e.length - 1 - t < i
                            · rw [if_pos z]
                            · rw [if_neg z, show e.length + k - i = i from by omega]
                          have sg := fun i => swp_get (e := e) (a := k) (b := q) (by omega) (by omega) i
                          have hdc : ∀ i j, k < i → i ≤ j → j < e.length → e.getD j 0 ≤ e.getD i 0 := fun i j h1 h2 h3 => by
                            have := dc_pair (k := k + 1) (fun i hi hi2 => hp i (by omega) hi2) (j - i) i (by omega) (by omega)
                            rwa [show i + (j - i) = j from by omega] at this
                          have en : nxB e = true := nxB_yes (i := k) (by omega) (by omega)
                          have hN : Nxt e ei := Nxt.of (k := k) (by omega) hpc (fun i hi => by rw [hi1 i (by omega), sg, if_neg (by omega), if_neg (by omega)]) (by rw [hi1 k (by omega), sg, if_neg (by omega), if_pos rfl]; omega) (fun i h1 h2 => hp i (by omega) h2)
                            (fun i j h1 h2 h3 => by
                              rw [hw i h1 (by omega), hw j (by omega) h3, sg, sg, if_neg (show ¬ e.length + k - i = k from by omega), if_neg (show ¬ e.length + k - j = k from by omega)]
                              by_cases z1 : e.length + k - i = q
                              · rw [if_pos z1, if_neg (by omega)]
                                have := hdc (e.length + k - j) q (by omega) (by omega) (by omega)
                                omega
                              · rw [if_neg z1]
                                by_cases z2 : e.length + k - j = q
                                · rw [if_pos z2]
                                  exact hq2 _ (by omega) (by omega)
                                · rw [if_neg z2]; exact hdc _ _ (by omega) (by omega) (by omega))
                            (fun i h1 h2 h3 => by
                              rw [hi1 k (by omega), sg, if_neg (by omega), if_pos rfl]
                              refine hdc i q h1 (Decidable.byContradiction (fun z => ?_)) (by omega)
                              have := hq2 i (by omega) h2
                              omega)
                          exact g_zret hR dX8_nextRow_109 rfl (Or.inr rfl) (by rw [en]; rfl) ⟨fun _ => ⟨ei, hv, hN⟩, fun z => (by rw [en] at z; cases z), hF3⟩
                        · skip
                          refine g_aload_0 hR dX8_nextRow_92 (g_iload_4 hR dX8_nextRow_93 (g_iload_3 hR dX8_nextRow_95 (g_callV2V hR dX8_nextRow_96 mlX8_205 (by decide) rfl rfl (C8_exchange hv (by rw [hpc.1]; exact hl) (a := k + 1 + t) (b := e.length - 1 - t) (by rw [hpc.1]; omega) (by rw [hpc.1]; omega)) (by decide) (Nat.le_of_ble_eq_true rfl) (fun u2 hu2 => (g_iinc_3 hR dX8_nextRow_99 rfl (g_iinc_4 hR dX8_nextRow_102 rfl (g_goto hR 86 dX8_nextRow_105 (by decide) ?_)))))))
                          have h9 := ih3 (e.length - (t + 1)) (by omega) (t + 1) (swp ei (k + 1 + t) (e.length - 1 - t)) u2 rfl (by omega) hu2.1 ⟨(swp_len _ _ _).trans hpc.1, fun x => (swp_ct (by rw [hpc.1]; omega) (by rw [hpc.1]; omega) x).trans (hpc.2 x)⟩ (fun i hi => by rw [swp_get (by rw [hpc.1]; omega) (by rw [hpc.1]; omega), if_neg (by omega), if_neg (by omega)]; exact hi1 i hi) (fun i h1 h2 => by
                            rw [swp_get (by rw [hpc.1]; omega) (by rw [hpc.1]; omega)]
                            by_cases z1 : i = e.length - 1 - t
                            · rw [if_pos z1, if_pos (by omega), hi2 _ (by omega) (by omega), if_neg (by omega), show e.length + k - i = k + 1 + t from by omega]
                            · rw [if_neg z1]
                              by_cases z2 : i = k + 1 + t
                              · rw [if_pos z2, if_pos (by omega), hi2 _ (by omega) (by omega), if_neg (by omega), show e.length + k - i = e.length - 1 - t from by omega]
                              · rw [if_neg z2, hi2 i h1 h2]
                                by_cases z3 : i < k + 1 + t ∨ e.length - 1 - t < i
                                · rw [if_pos z3, if_pos (by omega)]
                                · rw [if_neg z3, if_neg (by omega)]) (hF3.tr hu2.2)
                          rw [show ((e.length - 1 - (t + 1) : Nat) : Int) = ((e.length - 1 - t : Nat) : Int) + -1 from by omega, show ((k + 1 + (t + 1) : Nat) : Int) = ((k + 1 + t : Nat) : Int) + 1 from by omega] at h9
                          exact h9
                    have h0 := loop3 e.length 0 (swp e k q) u1 (by omega) (by omega) hu1.1 ⟨swp_len e k q, fun x => swp_ct (by omega) (by omega) x⟩ (fun _ _ => rfl) (fun i h1 h2 => by rw [if_neg (by omega)]) hu1.2
                    rw [show ((e.length - 1 - 0 : Nat) : Int) = (e.length : Int) - 1 from by omega, show ((k + 1 + 0 : Nat) : Int) = (k : Int) + 1 from by omega] at h0
                    exact h0
                  · skip
                    refine g_iinc_2 hR dX8_nextRow_62 rfl (g_goto hR 47 dX8_nextRow_65 (by decide) ?_)
                    have hne : q ≠ k + 1 := fun z => by rw [z] at zc59; omega
                    have h9 := ih2 (q - 1) (by omega) (q - 1) rfl (by omega) (by omega) (fun i h1 h2 => by
                      by_cases z : i = q
                      · rw [z]; omega
                      · exact hq2 i (by omega) h2)
                    rw [show ((q - 1 : Nat) : Int) = (q : Int) + -1 from by omega] at h9
                    exact h9
              have h0 := loop2 (e.length - 1) (e.length - 1) rfl (by omega) (by omega) (fun i h1 h2 => by omega)
              rw [show ((e.length - 1 : Nat) : Int) = (e.length : Int) - 1 from by omega] at h0
              exact h0
            · skip
              exact absurd zc35 (by omega)
          · skip
            refine g_iinc_1 hR dX8_nextRow_28 rfl (g_goto hR 7 dX8_nextRow_31 (by decide) ?_)
            have h9 := ih (p - 1) (by omega) (p - 1) rfl (by omega) (fun i h1 h2 => by
              by_cases z : i = p - 1
              · rw [z, show p - 1 + 1 = p from by omega]; omega
              · exact hp i (by omega) h2)
            rw [show (((p - 1 : Nat) : Int) - 1) = (p : Int) - 1 + -1 from by omega] at h9
            exact h9
    have h0 := loop (e.length - 1) (e.length - 1) rfl (Nat.le_refl _) (fun i h1 h2 => by omega)
    rw [show ((e.length - 1 : Nat) : Int) - 1 = (e.length : Int) - 2 from by omega] at h0
    exact h0
