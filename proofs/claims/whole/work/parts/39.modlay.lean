
theorem rdAll_end {t : List Nat} {p : Nat} {L : Les} (h : ¬ p < t.length) (m : Nat) : rdAll t m p L = (none, L) := by
  cases m with
  | zero => rfl
  | succ m => unfold rdAll; rw [if_neg h]
theorem rdAll_bad {t : List Nat} {p m : Nat} {L : Les} (h : p < t.length) (hI : rdItem t p L = none) : rdAll t (m + 1) p L = (some p, L) := by
  unfold rdAll; rw [if_pos h, hI]
theorem rdAll_go {t : List Nat} {p m : Nat} {L : Les} {q : Nat × Les} (h : p < t.length) (hI : rdItem t p L = some q) : rdAll t (m + 1) p L = rdAll t m q.1 q.2 := by
  conv => lhs; unfold rdAll
  rw [if_pos h, hI]
theorem LsM.cp {σ u : f_Mem} {L : Les} (ok : LesOK L) (h : LsM σ 6 L) (hc : ∀ i, i < 30 → u 1 i = σ 6 i) : LsM u 1 L := fun k hk => by
  have hK := ok.k
  obtain ⟨h0, h1, h2, h3, h4⟩ := h k hk
  rw [hc _ (by omega), hc _ (by omega), hc _ (by omega), hc _ (by omega), hc _ (by omega)]
  exact ⟨h0, h1, h2, h3, h4⟩
theorem L00_ok2 (t : List Nat) : LesOK L00 := L00_ok

theorem C8_fault {E : f_E} {σ : f_Mem} {A : AS} (h : InvM σ A) (ok : ASOK A) : FZ E sM mX8_fault 6 [.ref (f_ad E 0)] σ (sp_fault A) (fun u => InvM u A ∧ ((rdText (At A)).1 = none → RdL u (At A) (rdText (At A)).2 ∧ LesOK (rdText (At A)).2)) := by
  have hK1 := ok.K1
  have hK6 := ok.K6
  have hkk : AK A = (Lm (AL A)).length := rfl
  have hrl := ok.L.rl
  have hwl := ok.wl
  have hwo := ok.w
  have h6h := ok.M.2.2
  have hf6 := ok.L.f
  have hs4 := ok.L.s
  have htl := ok.1.2
  refine FZ.intro rfl (Nat.le_of_ble_eq_true rfl) (L0 := [some (.ref (f_ad E 0)), none]) rfl (fun G hR => ?_)
  refine g_aload_0 hR dX8_fault_0 (g_iconst hR dX8_fault_1 (g_putU hR dX8_fault_2 fpX8_91 (by decide) rfl rfl (fun a1 ha1 => (g_aload_0 hR dX8_fault_5 (g_iconst hR dX8_fault_6 (g_putU hR dX8_fault_7 fpX8_98 (by decide) rfl rfl (fun a2 ha2 => (g_aload_0 hR dX8_fault_10 (g_iconst hR dX8_fault_11 (g_putU hR dX8_fault_12 fpX8_120 (by decide) rfl rfl (fun a3 ha3 => (g_aload_0 hR dX8_fault_15 (g_iconst hR dX8_fault_16 (g_putU hR dX8_fault_17 fpX8_123 (by decide) rfl rfl (fun a4 ha4 => (g_aload_0 hR dX8_fault_20 (g_iconst hR dX8_fault_21 (g_putU hR dX8_fault_22 fpX8_126 (by decide) rfl rfl (fun a5 ha5 => ?_)))))))))))))))))))
  have hF5 : FrM [5, 6, 7] [9, 12, 13, 14, 16] σ a5 := (FrM.fd ha1 (by decide)).tr ((FrM.fd ha2 (by decide)).tr ((FrM.fd ha3 (by decide)).tr ((FrM.fd ha4 (by decide)).tr (FrM.fd ha5 (by decide)))))
  have hR5 : RdL a5 (At A) L00 := ⟨⟨h.tx.fr (hF5.1 4 (by decide) (by decide)), (hF5.2 8 (by decide)).trans h.tn⟩, ⟨fun k hk => absurd hk (by simp [L00, Lm]), by rw [ha5.2.1 12 (by omega), ha4.2.1 12 (by omega), ha3.2.1 12 (by omega), ha2.1]; rfl⟩, ⟨by rw [ha5.2.1 13 (by omega), ha4.2.1 13 (by omega), ha3.1]; rfl, by rw [ha5.2.1 14 (by omega), ha4.1]; rfl⟩, ⟨fun k hk => absurd hk (by simp [L00, Lrow]), by rw [ha5.1]; rfl⟩⟩
  have hp5 : a5 0 9 = iI (0 : Nat) := by rw [ha5.2.1 9 (by omega), ha4.2.1 9 (by omega), ha3.2.1 9 (by omega), ha2.2.1 9 (by omega), ha1.1]; rfl
  have loop : ∀ (mm : Nat) (p : Nat) (L : Les) (u : f_Mem), (At A).length ≤ p + mm → rdText (At A) = rdAll (At A) mm p L → RdL u (At A) L → LesOK L → u 0 9 = iI (p : Nat) → FrM [5, 6, 7] [9, 12, 13, 14, 16] σ u → p ≤ 1000 → ∀ x1 : Option Value, G 25 [some (.ref (f_ad E 0)), x1] [] u := by
    intro mm
    induction mm using Nat.strongRecOn with
    | ind mm ih =>
      intro p L u hm hA hRd ok2 hpp hF hpb x1
      refine g_aload_0 hR dX8_fault_25 (g_getI hR _ dX8_fault_26 flX8_91 (by decide) rfl rfl hpp (g_aload_0 hR dX8_fault_29 (g_getI hR _ dX8_fault_30 flX8_88 (by decide) rfl rfl hRd.1.2 (g_icmp_ge hR 53 dX8_fault_33 (by decide) (by omega) (by omega) (fun zc33 => ?_) (fun zc33 => ?_)))))
      · skip
        refine g_bipush hR dX8_fault_53 (by decide) ?_
        rw [rdAll_end (by omega)] at hA
        exact g_iret hR dX8_fault_55 rfl (by unfold sp_fault; rw [hA]; rfl) ⟨h.keep (hF.mono (by decide) (by decide)) (h.st.fr (hF.1 3 (by decide) (by decide))), fun q => by rw [hA]; exact ⟨hRd, ok2⟩⟩
      · skip
        obtain ⟨m, rfl⟩ : ∃ m, mm = m + 1 := ⟨mm - 1, by omega⟩
        rcases hq : rdItem (At A) p L with _ | ⟨p2, L2⟩
        · skip
          refine g_aload_0 hR dX8_fault_36 (g_getI hR _ dX8_fault_37 flX8_91 (by decide) rfl rfl hpp (g_istore_1 hR dX8_fault_40 rfl (g_aload_0 hR dX8_fault_41 (g_callV0Z hR dX8_fault_42 mlX8_129 (by decide) rfl rfl (C8_readItem hRd ok2 ok.1.2 ok.tx hpp (by omega) hq) (by decide) (Nat.le_of_ble_eq_true rfl) (fun u2 hu2 => (g_if_ne hR 50 dX8_fault_45 (by decide) (by show -2147483648 ≤ (0 : Int) ∧ (0 : Int) < 2147483648; omega) (fun zc45 => ?_) (fun zc45 => ?_)))))))
          · skip
            exact absurd rfl zc45
          · skip
            refine g_iload_1 hR dX8_fault_48 ?_
            rw [rdAll_bad (by omega) hq] at hA
            have hFz := hF.tr hu2.2
            exact g_iret hR dX8_fault_49 rfl (by unfold sp_fault; rw [hA]; rfl) ⟨h.keep (hFz.mono (by decide) (by decide)) (h.st.fr (hFz.1 3 (by decide) (by decide))), fun q => by rw [hA] at q; cases q⟩
        · skip
          refine g_aload_0 hR dX8_fault_36 (g_getI hR _ dX8_fault_37 flX8_91 (by decide) rfl rfl hpp (g_istore_1 hR dX8_fault_40 rfl (g_aload_0 hR dX8_fault_41 (g_callV0Z hR dX8_fault_42 mlX8_129 (by decide) rfl rfl (C8_readItem hRd ok2 ok.1.2 ok.tx hpp (by omega) hq) (by decide) (Nat.le_of_ble_eq_true rfl) (fun u2 hu2 => (g_if_ne hR 50 dX8_fault_45 (by decide) (by show -2147483648 ≤ (1 : Int) ∧ (1 : Int) < 2147483648; omega) (fun zc45 => ?_) (fun zc45 => ?_)))))))
          · skip
            refine g_goto hR 25 dX8_fault_50 (by decide) ?_
            have hl9 := rdItem_le hq
            exact ih m (by omega) p2 L2 u2 (by have : p < p2 := hl9.1; omega) (by rw [hA, rdAll_go (by omega) hq]) (hu2.1 _ rfl).1 (rdItem_ok hq ok2) (hu2.1 _ rfl).2 (hF.tr hu2.2) (by have : p2 ≤ p + 16 := hl9.2; omega) _
          · skip
            exact absurd zc45 (by show (1 : Int) ≠ 0; omega)
  exact loop 200 0 L00 a5 (by omega) rfl hR5 L00_ok hp5 hF5 (by omega) _
theorem M_fault {E : f_E} {σ : f_Mem} {A : AS} (h : InvM σ A) (ok : ASOK A) : FZ E sM mX8_fault 12 [.ref (f_ad E 0)] σ (sp_fault A) (fun u => InvM u A) := by
  have hK1 := ok.K1
  have hK6 := ok.K6
  have hkk : AK A = (Lm (AL A)).length := rfl
  have hrl := ok.L.rl
  have hwl := ok.wl
  have hwo := ok.w
  have h6h := ok.M.2.2
  have hf6 := ok.L.f
  have hs4 := ok.L.s
  have htl := ok.1.2
  refine FZ.intro rfl (Nat.le_of_ble_eq_true rfl) (L0 := [some (.ref (f_ad E 0)), none]) rfl (fun G hR => ?_)
  refine g_aload_0 hR dX8_fault_0 (g_iconst hR dX8_fault_1 (g_putU hR dX8_fault_2 fpX8_91 (by decide) rfl rfl (fun a1 ha1 => (g_aload_0 hR dX8_fault_5 (g_iconst hR dX8_fault_6 (g_putU hR dX8_fault_7 fpX8_98 (by decide) rfl rfl (fun a2 ha2 => (g_aload_0 hR dX8_fault_10 (g_iconst hR dX8_fault_11 (g_putU hR dX8_fault_12 fpX8_120 (by decide) rfl rfl (fun a3 ha3 => (g_aload_0 hR dX8_fault_15 (g_iconst hR dX8_fault_16 (g_putU hR dX8_fault_17 fpX8_123 (by decide) rfl rfl (fun a4 ha4 => (g_aload_0 hR dX8_fault_20 (g_iconst hR dX8_fault_21 (g_putU hR dX8_fault_22 fpX8_126 (by decide) rfl rfl (fun a5 ha5 => ?_)))))))))))))))))))
  have hF5 : FrM [5, 6, 7] [9, 12, 13, 14, 16] σ a5 := (FrM.fd ha1 (by decide)).tr ((FrM.fd ha2 (by decide)).tr ((FrM.fd ha3 (by decide)).tr ((FrM.fd ha4 (by decide)).tr (FrM.fd ha5 (by decide)))))
  have hR5 : RdL a5 (At A) L00 := ⟨⟨h.tx.fr (hF5.1 4 (by decide) (by decide)), (hF5.2 8 (by decide)).trans h.tn⟩, ⟨fun k hk => absurd hk (by simp [L00, Lm]), by rw [ha5.2.1 12 (by omega), ha4.2.1 12 (by omega), ha3.2.1 12 (by omega), ha2.1]; rfl⟩, ⟨by rw [ha5.2.1 13 (by omega), ha4.2.1 13 (by omega), ha3.1]; rfl, by rw [ha5.2.1 14 (by omega), ha4.1]; rfl⟩, ⟨fun k hk => absurd hk (by simp [L00, Lrow]), by rw [ha5.1]; rfl⟩⟩
  have hp5 : a5 0 9 = iI (0 : Nat) := by rw [ha5.2.1 9 (by omega), ha4.2.1 9 (by omega), ha3.2.1 9 (by omega), ha2.2.1 9 (by omega), ha1.1]; rfl
  have loop : ∀ (mm : Nat) (p : Nat) (L : Les) (u : f_Mem), (At A).length ≤ p + mm → rdText (At A) = rdAll (At A) mm p L → RdL u (At A) L → LesOK L → u 0 9 = iI (p : Nat) → FrM [5, 6, 7] [9, 12, 13, 14, 16] σ u → p ≤ 1000 → ∀ x1 : Option Value, G 25 [some (.ref (f_ad E 0)), x1] [] u := by
    intro mm
    induction mm using Nat.strongRecOn with
    | ind mm ih =>
      intro p L u hm hA hRd ok2 hpp hF hpb x1
      refine g_aload_0 hR dX8_fault_25 (g_getI hR _ dX8_fault_26 flX8_91 (by decide) rfl rfl hpp (g_aload_0 hR dX8_fault_29 (g_getI hR _ dX8_fault_30 flX8_88 (by decide) rfl rfl hRd.1.2 (g_icmp_ge hR 53 dX8_fault_33 (by decide) (by omega) (by omega) (fun zc33 => ?_) (fun zc33 => ?_)))))
      · skip
        refine g_bipush hR dX8_fault_53 (by decide) ?_
        rw [rdAll_end (by omega)] at hA
        exact g_iret hR dX8_fault_55 rfl (by unfold sp_fault; rw [hA]; rfl) (h.keep (hF.mono (by decide) (by decide)) (h.st.fr (hF.1 3 (by decide) (by decide))))
      · skip
        obtain ⟨m, rfl⟩ : ∃ m, mm = m + 1 := ⟨mm - 1, by omega⟩
        rcases hq : rdItem (At A) p L with _ | ⟨p2, L2⟩
        · skip
          refine g_aload_0 hR dX8_fault_36 (g_getI hR _ dX8_fault_37 flX8_91 (by decide) rfl rfl hpp (g_istore_1 hR dX8_fault_40 rfl (g_aload_0 hR dX8_fault_41 (g_callV0Z hR dX8_fault_42 mlX8_129 (by decide) rfl rfl (C8_readItem hRd ok2 ok.1.2 ok.tx hpp (by omega) hq) (by decide) (Nat.le_of_ble_eq_true rfl) (fun u2 hu2 => (g_if_ne hR 50 dX8_fault_45 (by decide) (by show -2147483648 ≤ (0 : Int) ∧ (0 : Int) < 2147483648; omega) (fun zc45 => ?_) (fun zc45 => ?_)))))))
          · skip
            exact absurd rfl zc45
          · skip
            refine g_iload_1 hR dX8_fault_48 ?_
            rw [rdAll_bad (by omega) hq] at hA
            have hFz := hF.tr hu2.2
            exact g_iret hR dX8_fault_49 rfl (by unfold sp_fault; rw [hA]; rfl) (h.keep (hFz.mono (by decide) (by decide)) (h.st.fr (hFz.1 3 (by decide) (by decide))))
        · skip
          refine g_aload_0 hR dX8_fault_36 (g_getI hR _ dX8_fault_37 flX8_91 (by decide) rfl rfl hpp (g_istore_1 hR dX8_fault_40 rfl (g_aload_0 hR dX8_fault_41 (g_callV0Z hR dX8_fault_42 mlX8_129 (by decide) rfl rfl (C8_readItem hRd ok2 ok.1.2 ok.tx hpp (by omega) hq) (by decide) (Nat.le_of_ble_eq_true rfl) (fun u2 hu2 => (g_if_ne hR 50 dX8_fault_45 (by decide) (by show -2147483648 ≤ (1 : Int) ∧ (1 : Int) < 2147483648; omega) (fun zc45 => ?_) (fun zc45 => ?_)))))))
          · skip
            refine g_goto hR 25 dX8_fault_50 (by decide) ?_
            have hl9 := rdItem_le hq
            exact ih m (by omega) p2 L2 u2 (by have : p < p2 := hl9.1; omega) (by rw [hA, rdAll_go (by omega) hq]) (hu2.1 _ rfl).1 (rdItem_ok hq ok2) (hu2.1 _ rfl).2 (hF.tr hu2.2) (by have : p2 ≤ p + 16 := hl9.2; omega) _
          · skip
            exact absurd zc45 (by show (1 : Int) ≠ 0; omega)
  exact loop 200 0 L00 a5 (by omega) rfl hR5 L00_ok hp5 hF5 (by omega) _
theorem M_lay {E : f_E} {σ : f_Mem} {A : AS} (h : InvM σ A) (ok : ASOK A) : FZ E sM mX8_lay 12 [.ref (f_ad E 0)] σ (sp_lay A).1 (fun u => InvM u (sp_lay A).2) := by
  have hK1 := ok.K1
  have hK6 := ok.K6
  have hkk : AK A = (Lm (AL A)).length := rfl
  have hrl := ok.L.rl
  have hwl := ok.wl
  have hwo := ok.w
  have h6h := ok.M.2.2
  have hf6 := ok.L.f
  have hs4 := ok.L.s
  refine FZ.intro rfl (Nat.le_of_ble_eq_true rfl) (L0 := [some (.ref (f_ad E 0)), none]) rfl (fun G hR => ?_)
  refine g_aload_0 hR dX8_lay_0 (g_callV0Z hR dX8_lay_1 mlX8_132 (by decide) rfl rfl (C8_fault h ok) (by decide) (Nat.le_of_ble_eq_true rfl) (fun b1 hb1 => ?_))
  obtain ⟨hI, hRR⟩ := hb1
  rcases hr : (rdText (At A)).1 with _ | q
  · skip
    have hz0 : sp_fault A = -4 := by unfold sp_fault; rw [hr]; rfl
    obtain ⟨hRd, okR⟩ := hRR hr
    have hKR := okR.k
    have hrR := okR.rl
    refine g_bipush hR dX8_lay_4 (by decide) (g_icmp_ne hR 16 dX8_lay_6 (by decide) (by rw [hz0]; omega) (by omega) (fun zc6 => ?_) (fun zc6 => ?_))
    · skip
      exact absurd hz0 zc6
    · skip
      refine g_aload_0 hR dX8_lay_9 (g_getI hR _ dX8_lay_10 flX8_98 (by decide) rfl rfl hRd.2.1.2 (g_if_ne hR 19 dX8_lay_13 (by decide) (by omega) (fun zc13 => ?_) (fun zc13 => ?_)))
      · skip
        refine g_aload_0 hR dX8_lay_19 (g_aload_0 hR dX8_lay_20 (g_getI hR _ dX8_lay_21 flX8_98 (by decide) rfl rfl hRd.2.1.2 (g_putU hR dX8_lay_24 fpX8_75 (by decide) rfl rfl (fun c1 hc1 => (g_aload_0 hR dX8_lay_27 (g_aload_0 hR dX8_lay_28 (g_getI hR _ dX8_lay_29 flX8_120 (by decide) rfl rfl ((hc1.2.1 13 (by omega)).trans hRd.2.2.1.1) (g_putU hR dX8_lay_32 fpX8_136 (by decide) rfl rfl (fun c2 hc2 => (g_aload_0 hR dX8_lay_35 (g_aload_0 hR dX8_lay_36 (g_getI hR _ dX8_lay_37 flX8_123 (by decide) rfl rfl ((hc2.2.1 14 (by omega)).trans ((hc1.2.1 14 (by omega)).trans hRd.2.2.1.2)) (g_putU hR dX8_lay_40 fpX8_139 (by decide) rfl rfl (fun c3 hc3 => (g_aload_0 hR dX8_lay_43 (g_aload_0 hR dX8_lay_44 (g_getI hR _ dX8_lay_45 flX8_126 (by decide) rfl rfl ((hc3.2.1 16 (by omega)).trans ((hc2.2.1 16 (by omega)).trans ((hc1.2.1 16 (by omega)).trans hRd.2.2.2.2))) (g_putU hR dX8_lay_48 fpX8_71 (by decide) rfl rfl (fun c4 hc4 => (g_iconst hR dX8_lay_51 (g_istore_1 hR dX8_lay_52 rfl ?_)))))))))))))))))))))
        have loop : ∀ (mm : Nat) (j : Nat) (u : f_Mem), mm = 30 - j → j ≤ 30 → Cp c4 u 1 0 6 0 j → FrM [1] [] c4 u → G 53 [some (.ref (f_ad E 0)), some (.int (iI j))] [] u := by
          intro mm
          induction mm using Nat.strongRecOn with
          | ind mm ih =>
            intro j u hm hj hcp1 hF1
            refine g_iload_1 hR dX8_lay_53 (g_bipush hR dX8_lay_54 (by decide) (g_icmp_ge hR 77 dX8_lay_56 (by decide) (by omega) (by omega) (fun zc56 => ?_) (fun zc56 => ?_)))
            · skip
              obtain rfl : j = 30 := by omega
              refine g_iconst hR dX8_lay_77 (g_istore_1 hR dX8_lay_78 rfl ?_)
              have loop2 : ∀ (mm2 : Nat) (j : Nat) (v : f_Mem), mm2 = 10 - j → j ≤ 10 → Cp u v 2 0 7 0 j → FrM [2] [] u v → G 79 [some (.ref (f_ad E 0)), some (.int (iI j))] [] v := by
                intro mm2
                induction mm2 using Nat.strongRecOn with
                | ind mm2 ih2 =>
                  intro j v hm2 hj hcp2 hF2
                  refine g_iload_1 hR dX8_lay_79 (g_bipush hR dX8_lay_80 (by decide) (g_icmp_ge hR 103 dX8_lay_82 (by decide) (by omega) (by omega) (fun zc82 => ?_) (fun zc82 => ?_)))
                  · skip
                    obtain rfl : j = 10 := by omega
                    refine g_iconst hR dX8_lay_103 (g_istore_1 hR dX8_lay_104 rfl ?_)
                    have loop3 : ∀ (mm3 : Nat) (j : Nat) (w : f_Mem), mm3 = 50 - j → j ≤ 50 → (∀ i, i < j → w 3 i = iI 0) → FrM [3] [] v w → G 105 [some (.ref (f_ad E 0)), some (.int (iI j))] [] w := by
                      intro mm3
                      induction mm3 using Nat.strongRecOn with
                      | ind mm3 ih3 =>
                        intro j w hm3 hj hc3w hF3
                        refine g_iload_1 hR dX8_lay_105 (g_bipush hR dX8_lay_106 (by decide) (g_icmp_ge hR 124 dX8_lay_108 (by decide) (by omega) (by omega) (fun zc108 => ?_) (fun zc108 => ?_)))
                        · skip
                          refine g_aload_0 hR dX8_lay_124 (g_iconst hR dX8_lay_125 (g_putU hR dX8_lay_126 fpX8_142 (by decide) rfl rfl (fun e1 he1 => (g_aload_0 hR dX8_lay_129 (g_iconst hR dX8_lay_130 (g_putU hR dX8_lay_131 fpX8_145 (by decide) rfl rfl (fun e2 he2 => (g_aload_0 hR dX8_lay_134 (g_iconst hR dX8_lay_135 (g_putU hR dX8_lay_136 fpX8_148 (by decide) rfl rfl (fun e3 he3 => ?_)))))))))))
                          obtain rfl : j = 50 := by omega
                          have hE : FrM [] [19, 28, 32] w e3 := (FrM.fd he1 (by decide)).tr ((FrM.fd he2 (by decide)).tr (FrM.fd he3 (by decide)))
                          have hFe : FrM [1, 2, 3] [19, 28, 32] c4 e3 := (hF1.mono (by decide) (by decide)).tr ((hF2.mono (by decide) (by decide)).tr ((hF3.mono (by decide) (by decide)).tr (hE.mono (by decide) (by decide))))
                          have hFc : FrM [] [1, 2, 3, 5] b1 c4 := (FrM.fd hc1 (by decide)).tr ((FrM.fd hc2 (by decide)).tr ((FrM.fd hc3 (by decide)).tr (FrM.fd hc4 (by decide))))
                          have hFb : FrM [1, 2, 3] [1, 2, 3, 5, 19, 28, 32] b1 e3 := (hFc.mono (by decide) (by decide)).tr (hFe.mono (by decide) (by decide))
                          have hk9 : e3 0 1 = iI ((Lm (rdText (At A)).2).length : Nat) := (hFe.2 1 (by decide)).trans (by rw [hc4.2.1 1 (by omega), hc3.2.1 1 (by omega), hc2.2.1 1 (by omega), hc1.1])
                          have hE1 : ∀ i, i < 30 → e3 1 i = b1 6 i := fun i hi => by
                            rw [hE.1 1 (by decide) (by decide), hF3.1 1 (by decide) (by decide), hF2.1 1 (by decide) (by decide)]
                            have := hcp1 i hi
                            rw [Nat.zero_add] at this
                            rw [this, hFc.1 6 (by decide) (by decide)]
                          have hE2 : ∀ i, i < 10 → e3 2 i = b1 7 i := fun i hi => by
                            rw [hE.1 2 (by decide) (by decide), hF3.1 2 (by decide) (by decide)]
                            have := hcp2 i hi
                            rw [Nat.zero_add] at this
                            rw [this, hF1.1 7 (by decide) (by decide), hFc.1 7 (by decide) (by decide)]
                          refine g_aload_0 hR dX8_lay_139 (g_getI hR _ dX8_lay_140 flX8_75 (by decide) rfl rfl hk9 ?_)
                          exact g_iret hR dX8_lay_143 rfl (by unfold sp_lay; rw [if_pos ⟨hr, by omega⟩]) (by unfold sp_lay; rw [if_pos ⟨hr, by omega⟩]; exact ⟨⟨hI.tx.fr (hFb.1 4 (by decide) (by decide)), (hFb.2 8 (by decide)).trans hI.tn⟩, ⟨hRd.2.1.1.cp okR (fun i hi => hE1 i hi), ⟨hk9, (hFe.2 2 (by decide)).trans (by rw [hc4.2.1 2 (by omega), hc3.2.1 2 (by omega), hc2.1]; rfl), (hFe.2 3 (by decide)).trans (by rw [hc4.2.1 3 (by omega), hc3.1]; rfl)⟩⟩, ⟨fun i hi => (hE2 i (Nat.lt_of_lt_of_le hi hrR)).trans (hRd.2.2.2.1 i hi), (hFe.2 5 (by decide)).trans hc4.1⟩, StM.zero (fun i hi => (congrFun (hE.1 3 (by decide) (by decide)) i).trans (hc3w i hi)), ⟨(fun i M q => by have q : ([] : List Mms)[i]? = some M := q; simp at q), by rw [he3.2.1 19 (by omega), he2.2.1 19 (by omega), he1.1]; rfl⟩, ⟨(fun i M q => by have q : ([] : List Mms)[i]? = some M := q; simp at q), he3.1⟩, ⟨(fun i hi => absurd hi (Nat.not_lt_zero i)), by rw [he3.2.1 28 (by omega), he2.1]; rfl⟩⟩)
                        · skip
                          refine g_aload_0 hR dX8_lay_111 (g_getR hR dX8_lay_112 flX8_16 (by decide) rfl rfl (g_iload_1 hR dX8_lay_115 (g_iconst hR dX8_lay_116 (g_astU hR (j) dX8_lay_117 (by decide) rfl (by decide) (by omega) (by omega) (fun d3 hd3 => (g_iinc_1 hR dX8_lay_118 rfl (g_goto hR 105 dX8_lay_121 (by decide) ?_)))))))
                          exact ih3 (50 - (j + 1)) (by omega) (j + 1) d3 rfl (by omega) (fun i hi => by
                            by_cases q : i = j
                            · rw [q]; exact hd3.1
                            · rw [hd3.2.1 i q]; exact hc3w i (by omega)) (hF3.tr (FrM.ar hd3 (by decide) (by decide)))
                    exact loop3 50 0 v (by omega) (by omega) (fun i hi => absurd hi (by omega)) FrM.rf
                  · skip
                    refine g_aload_0 hR dX8_lay_85 (g_getR hR dX8_lay_86 flX8_13 (by decide) rfl rfl (g_iload_1 hR dX8_lay_89 (g_aload_0 hR dX8_lay_90 (g_getR hR dX8_lay_91 flX8_28 (by decide) rfl rfl (g_iload_1 hR dX8_lay_94 (g_aldU hR _ dX8_lay_95 (by decide) rfl (by decide) (by omega) (iI_of (v 7 (0 + j))) (by omega) (g_astU hR (0 + j) dX8_lay_96 (by decide) rfl (by decide) (by omega) (by omega) (fun d2 hd2 => (g_iinc_1 hR dX8_lay_97 rfl (g_goto hR 79 dX8_lay_100 (by decide) ?_))))))))))
                    exact ih2 (10 - (j + 1)) (by omega) (j + 1) d2 rfl (by omega) (hcp2.step (congrFun (hF2.1 7 (by decide) (by decide)) _) hd2) (hF2.tr (FrM.ar hd2 (by decide) (by decide)))
              exact loop2 10 0 u (by omega) (by omega) Cp.rf FrM.rf
            · skip
              refine g_aload_0 hR dX8_lay_59 (g_getR hR dX8_lay_60 flX8_7 (by decide) rfl rfl (g_iload_1 hR dX8_lay_63 (g_aload_0 hR dX8_lay_64 (g_getR hR dX8_lay_65 flX8_25 (by decide) rfl rfl (g_iload_1 hR dX8_lay_68 (g_aldU hR _ dX8_lay_69 (by decide) rfl (by decide) (by omega) (iI_of (u 6 (0 + j))) (by omega) (g_astU hR (0 + j) dX8_lay_70 (by decide) rfl (by decide) (by omega) (by omega) (fun d1 hd1 => (g_iinc_1 hR dX8_lay_71 rfl (g_goto hR 53 dX8_lay_74 (by decide) ?_))))))))))
              exact ih (30 - (j + 1)) (by omega) (j + 1) d1 rfl (by omega) (hcp1.step (congrFun (hF1.1 6 (by decide) (by decide)) _) hd1) (hF1.tr (FrM.ar hd1 (by decide) (by decide)))
        exact loop 30 0 c4 (by omega) (by omega) Cp.rf FrM.rf
      · skip
        refine g_bipush hR dX8_lay_16 (by decide) ?_
        exact g_iret hR dX8_lay_18 rfl (by unfold sp_lay; rw [if_neg (fun q => absurd q.2 (by omega))]) (by unfold sp_lay; rw [if_neg (fun q => absurd q.2 (by omega))]; exact hI)
  · skip
    have hz0 : sp_fault A = (q : Nat) := by unfold sp_fault; rw [hr]; rfl
    have hq9 := rdText_lt hr ok.1.2
    refine g_bipush hR dX8_lay_4 (by decide) (g_icmp_ne hR 16 dX8_lay_6 (by decide) (by rw [hz0]; omega) (by omega) (fun zc6 => ?_) (fun zc6 => ?_))
    · skip
      refine g_bipush hR dX8_lay_16 (by decide) ?_
      exact g_iret hR dX8_lay_18 rfl (by unfold sp_lay; rw [if_neg (fun z => by rw [hr] at z; cases z.1)]) (by unfold sp_lay; rw [if_neg (fun z => by rw [hr] at z; cases z.1)]; exact hI)
    · skip
      exact absurd zc6 (by rw [hz0]; omega)
