
theorem InvM.keep2 {σ u : f_Mem} {A : AS} (h : InvM σ A) (hf : FrM [2, 3, 9, 10, 11, 13, 14] [17] σ u) (hs : StM u 3 0 (AM A)) (hr : RwM u 2 (Lrow (AL A))) : InvM u A :=
  ⟨⟨h.tx.fr (hf.1 4 (by decide) (by decide)), (hf.2 8 (by decide)).trans h.tn⟩, ⟨h.ls.fr (hf.1 1 (by decide) (by decide)), h.hd.fr (fun k hk => hf.2 k (by rcases hk with rfl | rfl | rfl <;> decide))⟩, ⟨hr, (hf.2 5 (by decide)).trans h.rn⟩, hs, ⟨h.pa.fr (hf.1 8 (by decide) (by decide)), (hf.2 19 (by decide)).trans h.pn⟩, ⟨h.ke.fr (hf.1 19 (by decide) (by decide)), (hf.2 32 (by decide)).trans h.kn⟩, ⟨h.sn.fr (hf.1 15 (by decide) (by decide)) (hf.1 16 (by decide) (by decide)), (hf.2 28 (by decide)).trans h.sl⟩⟩
theorem PC.rf (e : List Nat) : PC e e := ⟨rfl, fun _ => rfl⟩
theorem PC.sy {e q : List Nat} (h : PC e q) : PC q e := ⟨h.1.symm, fun x => (h.2 x).symm⟩
theorem PC.tr {e q z : List Nat} (h : PC e q) (h2 : PC q z) : PC e z := ⟨h2.1.trans h.1, fun x => (h2.2 x).trans (h.2 x)⟩
def B0 : Nat × List Nat := (1000000, [])
/-- the best of those ahead of e -/
def Ahd (A : AS) (e : List Nat) (R : Nat × List Nat) : Prop := BO (fun q => PC (Lrow (AL A)) q ∧ lx q e) (lossQ A) [] B0 R
def nxR (A : AS) (e : List Nat) (R : Nat × List Nat) : Nat × List Nat := if lossQ A e < R.1 then (lossQ A e, e) else R
theorem Ahd.first {A : AS} {e : List Nat} (hp : PC (Lrow (AL A)) e) (hs : ∀ i j, i < j → j < e.length → e.getD i 0 ≤ e.getD j 0) : Ahd A e B0 := BO.emp (fun q hq => by
  rcases first_ok hs (hp.sy.tr hq.1) with z | z
  · rw [z] at hq; exact lx_irr e hq.2
  · exact lx_irr e (lx_tr e q e z hq.2))
theorem Ahd.one {A : AS} {e : List Nat} {R : Nat × List Nat} (h : Ahd A e R) : BO (fun q => (PC (Lrow (AL A)) q ∧ lx q e) ∨ q = e) (lossQ A) [] B0 (nxR A e R) :=
  BO.add h (BO.one (c := lossQ A) (p := []) (b := R) e) (fun q1 q2 a1 a2 => by rw [a2]; exact a1.2)
theorem Ahd.next {A : AS} {e e2 : List Nat} {R : Nat × List Nat} (h : Ahd A e R) (hp : PC (Lrow (AL A)) e) (hn : Nxt e e2) : Ahd A e2 (nxR A e R) := by
  refine h.one.cg (fun q => ⟨fun hq => ?_, fun hq => ?_⟩) (fun _ => rfl)
  · rcases hq with hq | hq
    · exact ⟨hq.1, lx_tr q e e2 hq.2 hn.1⟩
    · rw [hq]; exact ⟨hp, hn.1⟩
  · have hl : q.length = e.length := hq.1.1.trans hp.1.symm
    rcases lx_tri q e hl with z | z | z
    · exact Or.inr z
    · exact Or.inl ⟨hq.1, z⟩
    · exfalso
      rcases hn.2.2 q (hp.sy.tr hq.1) z with y | y
      · rw [y] at hq; exact lx_irr e2 hq.2
      · exact lx_irr e2 (lx_tr e2 q e2 y hq.2)
theorem Ahd.last {A : AS} {e : List Nat} {R : Nat × List Nat} (h : Ahd A e R) (hp : PC (Lrow (AL A)) e) (hn : nxB e = false) : BO (PC (Lrow (AL A))) (lossQ A) [] B0 (nxR A e R) := by
  refine h.one.cg (fun q => ⟨fun hq => ?_, fun hq => ?_⟩) (fun _ => rfl)
  · rcases hq with hq | hq
    · exact hq.1
    · rw [hq]; exact hp
  · rcases last_ok (nxB_no2 hn) (hp.sy.tr hq) with z | z
    · exact Or.inr z
    · exact Or.inl ⟨hq, z⟩
/-- what least and the best row's cells say -/
def RepO (v : f_Mem) (n : Nat) (R : Nat × List Nat) (z : Int) : Prop := (z = -1 ∧ R = B0) ∨ (z = (R.1 : Nat) ∧ R.1 < 1000000 ∧ R.2.length = n ∧ ∀ i, i < n → v 14 i = iI (R.2.getD i 0 : Nat))
theorem RepO.fr {v w : f_Mem} {n : Nat} {R : Nat × List Nat} {z : Int} (h : RepO v n R z) (e : w 14 = v 14) : RepO w n R z := by
  rcases h with h | ⟨h1, h2, h3, h4⟩
  · exact Or.inl h
  · exact Or.inr ⟨h1, h2, h3, fun i hi => by rw [e]; exact h4 i hi⟩
theorem enc_nxt {e e2 : List Nat} (hn : Nxt e e2) (h6 : ∀ k ∈ e, k < 6) : enc6 e < enc6 e2 := lx_enc e e2 0 0 hn.2.1.1.symm h6 (fun d hd => h6 d (hn.2.1.mem hd)) (Or.inr ⟨rfl, hn.1⟩)
theorem enc_lt10 {e : List Nat} (h6 : ∀ k ∈ e, k < 6) (hl : e.length ≤ 10) : enc6 e < 60466176 := by
  have h := enc6_lt e 0 h6
  have h2 : 6 ^ e.length ≤ 6 ^ 10 := Nat.pow_le_pow_right (by omega) hl
  have h3 : (6 : Nat) ^ 10 = 60466176 := by decide
  unfold enc6
  omega

theorem M_order {E : f_E} {σ : f_Mem} {A : AS} (h : InvM σ A) (ok : ASOK A) {a : Int} (ha : -2147483648 ≤ a ∧ a < 2147483648) : FZ E sM mX8_order 12 [.ref (f_ad E 0), .int (iI a)] σ (sp_order A a) (fun u => InvM u A) := by
  have hK1 := ok.K1
  have hK6 := ok.K6
  have hkk : AK A = (Lm (AL A)).length := rfl
  have hrl := ok.L.rl
  have hwl := ok.wl
  have hwo := ok.w
  have h6h := ok.M.2.2
  have hf6 := ok.L.f
  have hs4 := ok.L.s
  refine FZ.intro rfl (Nat.le_of_ble_eq_true rfl) (L0 := [some (.ref (f_ad E 0)), some (.int (iI a)), none, none, none, none, none]) rfl (fun G hR => ?_)
  refine g_iload_1 hR dX8_order_0 (g_i2l hR dX8_order_1 (by omega) (g_ldc2 hR (-1) dX8_order_2 kcX8_197 (by decide) (g_aload_0 hR dX8_order_5 (g_getI hR _ dX8_order_6 flX8_71 (by decide) rfl rfl h.rn (g_iconst hR dX8_order_9 (g_isub hR dX8_order_10 (g_i2l hR dX8_order_11 (by omega) (g_callS3P hR dX8_order_12 mlX8_78 (C8_in (by omega) (by omega) (by omega)) (by decide) (Nat.le_of_ble_eq_true rfl) (g_if_ne hR 20 dX8_order_15 (by decide) (by split <;> omega) (fun zc15 => ?_) (fun zc15 => ?_))))))))))
  · skip
    refine g_aload_0 hR dX8_order_20 (g_getI hR _ dX8_order_21 flX8_71 (by decide) rfl rfl h.rn (g_bipush hR dX8_order_24 (by decide) (g_icmp_le hR 32 dX8_order_26 (by decide) (by omega) (by omega) (fun zc26 => ?_) (fun zc26 => ?_))))
    · skip
      refine g_iconst hR dX8_order_32 (g_istore_2 hR dX8_order_33 rfl ?_)
      have loop : ∀ (mm : Nat) (j : Nat) (uA : f_Mem), mm = (Lrow (AL A)).length - j → j ≤ (Lrow (AL A)).length → (∀ i, i < j → uA 13 i = iI ((Lrow (AL A)).getD i 0 : Nat)) → FrM [13] [] σ uA → G 34 [some (.ref (f_ad E 0)), some (.int (iI a)), some (.int (iI j)), none, none, none, none] [] uA := by
        intro mm
        induction mm using Nat.strongRecOn with
        | ind mm ih =>
          intro j uA hm hj hh hFA
          refine g_iload_2 hR dX8_order_34 (g_aload_0 hR dX8_order_35 (g_getI hR _ dX8_order_36 flX8_71 (by decide) rfl rfl ((hFA.2 5 (by decide)).trans h.rn) (g_icmp_ge hR 60 dX8_order_39 (by decide) (by omega) (by omega) (fun zc39 => ?_) (fun zc39 => ?_))))
          · skip
            obtain rfl : j = (Lrow (AL A)).length := by omega
            refine g_iconst hR dX8_order_60 (g_istore_2 hR dX8_order_61 rfl ?_)
            have loop2 : ∀ (mm2 : Nat) (p : Nat) (e : List Nat) (v : f_Mem), mm2 = (Lrow (AL A)).length - p → p ≤ (Lrow (AL A)).length → RwM v 2 e → PC (Lrow (AL A)) e → (∀ i j, i < p → i < j → j < e.length → e.getD i 0 ≤ e.getD j 0) → FrM [2] [] uA v → ∀ x3 : Option Value, G 62 [some (.ref (f_ad E 0)), some (.int (iI a)), some (.int (iI p)), x3, none, none, none] [] v := by
              intro mm2
              induction mm2 using Nat.strongRecOn with
              | ind mm2 ih2 =>
                intro p e v hm2 hp hv hpc hs hFv x3
                have hel := hpc.1
                have hn5 : uA 0 5 = iI ((Lrow (AL A)).length : Nat) := (hFA.2 5 (by decide)).trans h.rn
                refine g_iload_2 hR dX8_order_62 (g_aload_0 hR dX8_order_63 (g_getI hR _ dX8_order_64 flX8_71 (by decide) rfl rfl ((hFv.2 5 (by decide)).trans hn5) (g_icmp_ge hR 115 dX8_order_67 (by decide) (by omega) (by omega) (fun zc67 => ?_) (fun zc67 => ?_))))
                · skip
                  refine g_iconst hR dX8_order_115 (g_istore_2 hR dX8_order_116 rfl (g_iconst hR dX8_order_117 (g_istore_3 hR dX8_order_118 rfl ?_)))
                  obtain rfl : p = (Lrow (AL A)).length := by omega
                  have hsrt : ∀ i j, i < j → j < e.length → e.getD i 0 ≤ e.getD j 0 := fun i j h1 h2 => hs i j (by omega) h1 h2
                  have h60 : ∀ q, PC (Lrow (AL A)) q → ∀ k ∈ q, k < 6 := fun q hq k hk => Nat.lt_of_lt_of_le (ok.L.2.2.1.2 k (hq.mem hk)) ok.L.k
                  have hrk0 : ∀ q, PC (Lrow (AL A)) q → ∀ k ∈ q, k < (Lm (AL A)).length := fun q hq k hk => ok.L.2.2.1.2 k (hq.mem hk)
                  have kend : ∀ (z : Int) (w : f_Mem) (R : Nat × List Nat) (x4 x5 x6 : Option Value), BO (PC (Lrow (AL A))) (lossQ A) [] B0 R → RepO w (Lrow (AL A)).length R z → z ≠ -1 → StM w 3 0 (AM A) → FrM [2, 3, 9, 10, 11, 14] [17] uA w → G 119 [some (.ref (f_ad E 0)), some (.int (iI a)), some (.int (iI z)), some (.int (iI 0)), x4, x5, x6] [] w := by
                    intro z w R x4 x5 x6 hB hR3 hz1 hSw hFw
                    obtain ⟨hz2, hz3, hz4, hz5⟩ := hR3.resolve_left (fun q => hz1 q.1)
                    have hRB : R = ordB A := hB.uniq (ordB_BO ok)
                    subst hz2
                    refine g_iload_3 hR dX8_order_119 (g_if_eq hR 207 dX8_order_120 (by decide) (by omega) (fun zc120 => ?_) (fun zc120 => ?_))
                    · skip
                      refine g_iconst hR dX8_order_207 (g_istore_4 hR dX8_order_208 rfl ?_)
                      have loop4 : ∀ (mm4 : Nat) (j : Nat) (y : f_Mem), mm4 = (Lrow (AL A)).length - j → j ≤ (Lrow (AL A)).length → (∀ i, i < j → y 2 i = iI ((Lrow (AL A)).getD i 0 : Nat)) → FrM [2] [] w y → G 210 [some (.ref (f_ad E 0)), some (.int (iI a)), some (.int (iI (R.1 : Nat))), some (.int (iI 0)), some (.int (iI j)), x5, x6] [] y := by
                        intro mm4
                        induction mm4 using Nat.strongRecOn with
                        | ind mm4 ih4 =>
                          intro j y hm4 hj hy hFy
                          refine g_iload_4 hR dX8_order_210 (g_aload_0 hR dX8_order_212 (g_getI hR _ dX8_order_213 flX8_71 (by decide) rfl rfl ((hFy.2 5 (by decide)).trans ((hFw.2 5 (by decide)).trans hn5)) (g_icmp_ge hR 239 dX8_order_216 (by decide) (by omega) (by omega) (fun zc216 => ?_) (fun zc216 => ?_))))
                          · skip
                            refine g_iload_1 hR dX8_order_239 (g_if_ge hR 247 dX8_order_240 (by decide) (by omega) (fun zc240 => ?_) (fun zc240 => ?_))
                            · skip
                              obtain ⟨ka, rfl⟩ : ∃ ka : Nat, a = ka := ⟨a.toNat, by omega⟩
                              have h14 : y 14 ka = iI ((ordB A).2.getD ka 0 : Nat) := by rw [hFy.1 14 (by decide) (by decide), ← hRB]; exact hz5 ka (by omega)
                              refine g_aload_0 hR dX8_order_247 (g_getR hR dX8_order_248 flX8_49 (by decide) rfl rfl (g_iload_1 hR dX8_order_251 (g_aldU hR _ dX8_order_252 (by decide) rfl (by decide) (by omega) h14 (by omega) ?_)))
                              obtain rfl : j = (Lrow (AL A)).length := by omega
                              have hIe := h.keep2 ((hFA.mono (by decide) (by decide)).tr ((hFw.mono (by decide) (by decide)).tr (hFy.mono (by decide) (by decide)))) (hSw.fr (hFy.1 3 (by decide) (by decide))) (fun i hi => hy i hi)
                              exact g_iret hR dX8_order_253 rfl (by unfold sp_order; rw [if_pos (by omega), if_neg (by omega), if_neg (by omega)]; rfl) hIe
                            · skip
                              refine g_iload_2 hR dX8_order_243 (g_goto hR 253 dX8_order_244 (by decide) ?_)
                              obtain rfl : j = (Lrow (AL A)).length := by omega
                              have hIe := h.keep2 ((hFA.mono (by decide) (by decide)).tr ((hFw.mono (by decide) (by decide)).tr (hFy.mono (by decide) (by decide)))) (hSw.fr (hFy.1 3 (by decide) (by decide))) (fun i hi => hy i hi)
                              exact g_iret hR dX8_order_253 rfl (by unfold sp_order; rw [if_pos (by omega), if_neg (by omega), if_pos (by omega)]; rw [hRB]) hIe
                          · skip
                            refine g_aload_0 hR dX8_order_219 (g_getR hR dX8_order_220 flX8_13 (by decide) rfl rfl (g_iload_4 hR dX8_order_223 (g_aload_0 hR dX8_order_225 (g_getR hR dX8_order_226 flX8_46 (by decide) rfl rfl (g_iload_4 hR dX8_order_229 (g_aldU hR _ dX8_order_231 (by decide) rfl (by decide) (by omega) (((hFy.1 13 (by decide) (by decide)).trans (hFw.1 13 (by decide) (by decide))) ▸ hh j (by omega)) (by omega) (g_astU hR (j) dX8_order_232 (by decide) rfl (by decide) (by omega) (by omega) (fun y2 hy2 => (g_iinc_4 hR dX8_order_233 rfl (g_goto hR 210 dX8_order_236 (by decide) ?_))))))))))
                            refine ih4 ((Lrow (AL A)).length - (j + 1)) (by omega) (j + 1) y2 rfl (by omega) (fun i hi => ?_) (hFy.tr (FrM.ar hy2 (by decide) (by decide)))
                            by_cases q : i = j
                            · rw [q]; exact hy2.1
                            · rw [hy2.2.1 i q]; exact hy i (by omega)
                      exact loop4 (Lrow (AL A)).length 0 w (by omega) (by omega) (fun i hi => absurd hi (by omega)) FrM.rf
                    · skip
                      exact absurd rfl zc120
                  have loop5 : ∀ (mm5 : Nat) (z : Int) (e5 : List Nat) (v5 : f_Mem) (R : Nat × List Nat), mm5 = 100000000 - enc6 e5 → RwM v5 2 e5 → PC (Lrow (AL A)) e5 → Ahd A e5 R → RepO v5 (Lrow (AL A)).length R z → StM v5 3 0 (AM A) → FrM [2, 3, 9, 10, 11, 14] [17] uA v5 → ∀ x4 x5 x6 : Option Value, G 119 [some (.ref (f_ad E 0)), some (.int (iI a)), some (.int (iI z)), some (.int (iI 1)), x4, x5, x6] [] v5 := by
                    intro mm5
                    induction mm5 using Nat.strongRecOn with
                    | ind mm5 ih5 =>
                      intro z e5 v5 R hm5 hr5 hpc5 hA5 hR5 hS5 hF5 x4 x5 x6
                      have hel5 := hpc5.1
                      have h55 : v5 0 5 = iI (e5.length : Nat) := by rw [hel5]; exact (hF5.2 5 (by decide)).trans hn5
                      have hzr : -2147483648 ≤ z ∧ z < 2147483648 := by rcases hR5 with ⟨g1, _⟩ | ⟨g1, g2, _⟩ <;> omega
                      refine g_iload_3 hR dX8_order_119 (g_if_eq hR 207 dX8_order_120 (by decide) (by omega) (fun zc120 => ?_) (fun zc120 => ?_))
                      · skip
                        exact absurd zc120 (by omega)
                      · skip
                        refine g_aload_0 hR dX8_order_123 (g_aload_0 hR dX8_order_124 (g_getI hR _ dX8_order_125 flX8_136 (by decide) rfl rfl ((hF5.2 2 (by decide)).trans ((hFA.2 2 (by decide)).trans h.hd.2.1)) (g_callV1Z hR dX8_order_128 mlX8_199 (by decide) rfl rfl (C8_tryRow (L := AL A) (M := AM A) hS5 (h.ls.fr ((hF5.1 1 (by decide) (by decide)).trans (hFA.1 1 (by decide) (by decide)))) (h.hd.fr (fun k hk => (hF5.2 k (by rcases hk with rfl | rfl | rfl <;> decide)).trans (hFA.2 k (by simp)))) ok.L hwo h6h (row := e5) hr5 h55 (hrk0 _ hpc5) (by omega) hs4) (by decide) (Nat.le_of_ble_eq_true rfl) (fun v1 hv1 => ?_))))
                        have hF1 : FrM [2, 3, 9, 10, 11, 14] [17] uA v1 := hF5.tr (hv1.2.2.mono (by decide) (by decide))
                        have hS1 := hv1.1
                        have hR1 := hr5.fr (hv1.2.2.1 2 (by decide) (by decide))
                        have h51 := (hv1.2.2.2 5 (by decide)).trans h55
                        have h5n : v1 0 5 = iI ((Lrow (AL A)).length : Nat) := by rw [← hel5]; exact h51
                        have hl9 : lossQ A e5 < 1000000 := by have := runL_le ok.L (Lsort (AL A)) (Lfirst (AL A)) e5 (AM A).1; unfold lossQ; omega
                        rw [show runL (AL A) (Lsort (AL A)) (Lfirst (AL A)) e5 (AM A).1 = lossQ A e5 from rfl]
                        refine g_istore_4 hR dX8_order_131 rfl ?_
                        have k199 : ∀ (z2 b2 : Int) (w : f_Mem) (x6 : Option Value), RepO w (Lrow (AL A)).length (nxR A e5 R) z2 → z2 ≠ -1 → FrM [14] [] v1 w → G 199 [some (.ref (f_ad E 0)), some (.int (iI a)), some (.int (iI z2)), some (.int (iI 1)), some (.int (iI (lossQ A e5 : Nat))), some (.int (iI b2)), x6] [] w := by
                          intro z2 b2 w x6 hR2 hz2 hFw
                          refine g_aload_0 hR dX8_order_199 (g_callV0Z hR dX8_order_200 mlX8_208 (by decide) rfl rfl (C8_nextRow (hR1.fr (hFw.1 2 (by decide) (by decide))) ((hFw.2 5 (by decide)).trans h51) (by omega) (h60 _ hpc5)) (by decide) (Nat.le_of_ble_eq_true rfl) (fun w3 hw3 => ?_))
                          have hF3 : FrM [2, 3, 9, 10, 11, 14] [17] uA w3 := hF1.tr ((hFw.mono (by decide) (by decide)).tr (hw3.2.2.mono (by decide) (by decide)))
                          have hS3 := (hS1.fr (hFw.1 3 (by decide) (by decide))).fr (hw3.2.2.1 3 (by decide) (by decide))
                          have hR3 := hR2.fr (hw3.2.2.1 14 (by decide) (by decide))
                          refine g_istore_3 hR dX8_order_203 rfl (g_goto hR 119 dX8_order_204 (by decide) ?_)
                          cases hb : nxB e5 with
                          | false => exact kend z2 w3 _ _ _ _ (hA5.last hpc5 hb) hR3 hz2 hS3 hF3
                          | true =>
                            obtain ⟨e2, hr2, hn2⟩ := hw3.1 hb
                            have hlt := enc_nxt hn2 (h60 _ hpc5)
                            have hlt2 := enc_lt10 (h60 _ hpc5) (by omega)
                            exact ih5 (100000000 - enc6 e2) (by omega) z2 e2 w3 (nxR A e5 R) rfl hr2 (hpc5.tr hn2.2.1) (hA5.next hpc5 hn2) hR3 hS3 hF3 _ _ _
                        have kB : ∀ (z2 : Int) (x6 : Option Value), lossQ A e5 < R.1 → z2 = (lossQ A e5 : Nat) → G 162 [some (.ref (f_ad E 0)), some (.int (iI a)), some (.int (iI z2)), some (.int (iI 1)), some (.int (iI (lossQ A e5 : Nat))), some (.int (iI 1)), x6] [] v1 := by
                          intro z2 x6 hlt hz2
                          have hnx : nxR A e5 R = (lossQ A e5, e5) := if_pos hlt
                          refine g_iconst hR dX8_order_162 (g_istore_6 hR dX8_order_163 rfl ?_)
                          have loop6 : ∀ (mm6 : Nat) (j : Nat) (y : f_Mem), mm6 = (Lrow (AL A)).length - j → j ≤ (Lrow (AL A)).length → (∀ i, i < j → y 14 i = iI (e5.getD i 0 : Nat)) → FrM [14] [] v1 y → G 165 [some (.ref (f_ad E 0)), some (.int (iI a)), some (.int (iI z2)), some (.int (iI 1)), some (.int (iI (lossQ A e5 : Nat))), some (.int (iI 1)), some (.int (iI j))] [] y := by
                            intro mm6
                            induction mm6 using Nat.strongRecOn with
                            | ind mm6 ih6 =>
                              intro j y hm6 hj hy hFy
                              refine g_iload_6 hR dX8_order_165 (g_aload_0 hR dX8_order_167 (g_getI hR _ dX8_order_168 flX8_71 (by decide) rfl rfl ((hFy.2 5 (by decide)).trans h5n) (g_icmp_ge hR 199 dX8_order_171 (by decide) (by omega) (by omega) (fun zc171 => ?_) (fun zc171 => ?_))))
                              · skip
                                exact k199 z2 1 y _ (Or.inr ⟨by rw [hnx]; exact hz2, by rw [hnx]; exact hl9, by rw [hnx]; exact hel5, fun i hi => by rw [hnx]; exact hy i (by omega)⟩) (by omega) hFy
                              · skip
                                refine g_iload_5 hR dX8_order_174 (g_if_eq hR 199 dX8_order_176 (by decide) (by omega) (fun zc176 => ?_) (fun zc176 => ?_))
                                · skip
                                  exact absurd zc176 (by omega)
                                · skip
                                  refine g_aload_0 hR dX8_order_179 (g_getR hR dX8_order_180 flX8_49 (by decide) rfl rfl (g_iload_6 hR dX8_order_183 (g_aload_0 hR dX8_order_185 (g_getR hR dX8_order_186 flX8_13 (by decide) rfl rfl (g_iload_6 hR dX8_order_189 (g_aldU hR _ dX8_order_191 (by decide) rfl (by decide) (by omega) ((hFy.1 2 (by decide) (by decide)) ▸ hR1 j (by omega)) (by omega) (g_astU hR (j) dX8_order_192 (by decide) rfl (by decide) (by omega) (by omega) (fun y3 hy3 => (g_iinc_6 hR dX8_order_193 rfl (g_goto hR 165 dX8_order_196 (by decide) ?_))))))))))
                                  refine ih6 ((Lrow (AL A)).length - (j + 1)) (by omega) (j + 1) y3 rfl (by omega) (fun i hi => ?_) (hFy.tr (FrM.ar hy3 (by decide) (by decide)))
                                  by_cases q : i = j
                                  · rw [q]; exact hy3.1
                                  · rw [hy3.2.1 i q]; exact hy i (by omega)
                          exact loop6 (Lrow (AL A)).length 0 v1 (by omega) (by omega) (fun i hi => absurd hi (by omega)) FrM.rf
                        refine g_iload_2 hR dX8_order_133 (g_if_lt hR 143 dX8_order_134 (by decide) hzr (fun zc134 => ?_) (fun zc134 => ?_))
                        · skip
                          refine g_iconst hR dX8_order_143 (g_goto hR 148 dX8_order_144 (by decide) (g_istore_5 hR dX8_order_148 rfl (g_iload_5 hR dX8_order_150 (g_if_eq hR 160 dX8_order_152 (by decide) (by omega) (fun zc152 => ?_) (fun zc152 => ?_)))))
                          · skip
                            exact absurd zc152 (by omega)
                          · skip
                            refine g_iload_4 hR dX8_order_155 (g_goto hR 161 dX8_order_157 (by decide) (g_istore_2 hR dX8_order_161 rfl ?_))
                            exact kB _ _ (by
                              rcases hR5 with ⟨g1, g2⟩ | ⟨g1, g2, g3, g4⟩
                              · first | (rw [g2]; exact hl9) | omega
                              · omega) rfl
                        · skip
                          refine g_iload_4 hR dX8_order_137 (g_iload_2 hR dX8_order_139 (g_icmp_ge hR 147 dX8_order_140 (by decide) (by omega) hzr (fun zc140 => ?_) (fun zc140 => ?_)))
                          · skip
                            have hge : ¬ lossQ A e5 < R.1 := by
                              rcases hR5 with ⟨g1, g2⟩ | ⟨g1, g2, g3, g4⟩
                              · omega
                              · omega
                            have hnx : nxR A e5 R = R := if_neg hge
                            have hR6 : RepO v1 (Lrow (AL A)).length (nxR A e5 R) z := by rw [hnx]; exact hR5.fr (hv1.2.2.1 14 (by decide) (by decide))
                            have hz6 : z ≠ -1 := by omega
                            refine g_iconst hR dX8_order_147 (g_istore_5 hR dX8_order_148 rfl (g_iload_5 hR dX8_order_150 (g_if_eq hR 160 dX8_order_152 (by decide) (by omega) (fun zc152 => ?_) (fun zc152 => ?_))))
                            · skip
                              refine g_iload_2 hR dX8_order_160 (g_istore_2 hR dX8_order_161 rfl (g_iconst hR dX8_order_162 (g_istore_6 hR dX8_order_163 rfl (g_iload_6 hR dX8_order_165 (g_aload_0 hR dX8_order_167 (g_getI hR _ dX8_order_168 flX8_71 (by decide) rfl rfl h5n (g_icmp_ge hR 199 dX8_order_171 (by decide) (by omega) (by omega) (fun zc171 => ?_) (fun zc171 => ?_))))))))
                              · skip
                                exact k199 _ _ v1 _ hR6 hz6 FrM.rf
                              · skip
                                refine g_iload_5 hR dX8_order_174 (g_if_eq hR 199 dX8_order_176 (by decide) (by omega) (fun zc176 => ?_) (fun zc176 => ?_))
                                · skip
                                  exact k199 _ _ v1 _ hR6 hz6 FrM.rf
                                · skip
                                  exact absurd zc176 (by omega)
                            · skip
                              exact absurd zc152 (by omega)
                          · skip
                            refine g_iconst hR dX8_order_143 (g_goto hR 148 dX8_order_144 (by decide) (g_istore_5 hR dX8_order_148 rfl (g_iload_5 hR dX8_order_150 (g_if_eq hR 160 dX8_order_152 (by decide) (by omega) (fun zc152 => ?_) (fun zc152 => ?_)))))
                            · skip
                              exact absurd zc152 (by omega)
                            · skip
                              refine g_iload_4 hR dX8_order_155 (g_goto hR 161 dX8_order_157 (by decide) (g_istore_2 hR dX8_order_161 rfl ?_))
                              exact kB _ _ (by
                                rcases hR5 with ⟨g1, g2⟩ | ⟨g1, g2, g3, g4⟩
                                · first | (rw [g2]; exact hl9) | omega
                                · omega) rfl
                  exact loop5 (100000000 - enc6 e) (-1) e v B0 rfl hv hpc (Ahd.first hpc hsrt) (Or.inl ⟨rfl, rfl⟩) ((h.st.fr (hFA.1 3 (by decide) (by decide))).fr (hFv.1 3 (by decide) (by decide))) (hFv.mono (by decide) (by decide)) _ _ _
                · skip
                  refine g_iload_2 hR dX8_order_70 (g_iconst hR dX8_order_71 (g_iadd hR dX8_order_72 (g_istore_3 hR dX8_order_73 rfl ?_)))
                  have loop3 : ∀ (mm3 : Nat) (q : Nat) (e3 : List Nat) (w : f_Mem), mm3 = (Lrow (AL A)).length - q → p < q → q ≤ (Lrow (AL A)).length → RwM w 2 e3 → PC (Lrow (AL A)) e3 → (∀ i j, i < p → i < j → j < e3.length → e3.getD i 0 ≤ e3.getD j 0) → (∀ j, p < j → j < q → e3.getD p 0 ≤ e3.getD j 0) → FrM [2] [] uA w → G 74 [some (.ref (f_ad E 0)), some (.int (iI a)), some (.int (iI p)), some (.int (iI q)), none, none, none] [] w := by
                    intro mm3
                    induction mm3 using Nat.strongRecOn with
                    | ind mm3 ih3 =>
                      intro q e3 w hm3 hq1 hq2 hw hpc3 hs3 hs4 hFw
                      have hel3 := hpc3.1
                      have hg3 := getD_lt (fun k hk => Nat.lt_of_lt_of_le (ok.L.2.2.1.2 k (hpc3.mem hk)) ok.L.k) (by decide)
                      refine g_iload_3 hR dX8_order_74 (g_aload_0 hR dX8_order_75 (g_getI hR _ dX8_order_76 flX8_71 (by decide) rfl rfl ((hFw.2 5 (by decide)).trans hn5) (g_icmp_ge hR 109 dX8_order_79 (by decide) (by omega) (by omega) (fun zc79 => ?_) (fun zc79 => ?_))))
                      · skip
                        refine g_iinc_2 hR dX8_order_109 rfl (g_goto hR 62 dX8_order_112 (by decide) ?_)
                        refine ih2 ((Lrow (AL A)).length - (p + 1)) (by omega) (p + 1) e3 w rfl (by omega) hw hpc3 (fun i j h1 h2 h3 => ?_) hFw _
                        by_cases z : i = p
                        · rw [z]; exact hs4 j (by omega) (by omega)
                        · exact hs3 i j (by omega) h2 h3
                      · skip
                        refine g_aload_0 hR dX8_order_82 (g_getR hR dX8_order_83 flX8_13 (by decide) rfl rfl (g_iload_3 hR dX8_order_86 (g_aldU hR _ dX8_order_87 (by decide) rfl (by decide) (by omega) (hw q (by omega)) (by omega) (g_aload_0 hR dX8_order_88 (g_getR hR dX8_order_89 flX8_13 (by decide) rfl rfl (g_iload_2 hR dX8_order_92 (g_aldU hR _ dX8_order_93 (by decide) rfl (by decide) (by omega) (hw p (by omega)) (by omega) (g_icmp_ge hR 103 dX8_order_94 (by decide) (by have := hg3 q; omega) (by have := hg3 p; omega) (fun zc94 => ?_) (fun zc94 => ?_)))))))))
                        · skip
                          refine g_iinc_3 hR dX8_order_103 rfl (g_goto hR 74 dX8_order_106 (by decide) ?_)
                          exact ih3 ((Lrow (AL A)).length - (q + 1)) (by omega) (q + 1) e3 w rfl (by omega) (by omega) hw hpc3 hs3 (fun j h1 h2 => by
                            by_cases z : j = q
                            · rw [z]; omega
                            · exact hs4 j h1 (by omega)) hFw
                        · skip
                          refine g_aload_0 hR dX8_order_97 (g_iload_2 hR dX8_order_98 (g_iload_3 hR dX8_order_99 (g_callV2V hR dX8_order_100 mlX8_205 (by decide) rfl rfl (C8_exchange hw (by omega) (a := p) (b := q) (by omega) (by omega)) (by decide) (Nat.le_of_ble_eq_true rfl) (fun w2 hw2 => (g_iinc_3 hR dX8_order_103 rfl (g_goto hR 74 dX8_order_106 (by decide) ?_))))))
                          have sg := fun i => swp_get (e := e3) (a := p) (b := q) (by omega) (by omega) i
                          exact ih3 ((Lrow (AL A)).length - (q + 1)) (by omega) (q + 1) (swp e3 p q) w2 rfl (by omega) (by omega) hw2.1 (hpc3.swp (by omega) (by omega)) (fun i j h1 h2 h3 => by
                            rw [swp_len] at h3
                            rw [sg, sg, if_neg (by omega), if_neg (by omega)]
                            by_cases z1 : j = q
                            · rw [if_pos z1]; exact hs3 i p h1 h1 (by omega)
                            · rw [if_neg z1]
                              by_cases z2 : j = p
                              · rw [if_pos z2]; exact hs3 i q h1 (by omega) (by omega)
                              · rw [if_neg z2]; exact hs3 i j h1 h2 h3) (fun j h1 h2 => by
                            rw [sg p, sg j, if_neg (by omega), if_pos rfl]
                            by_cases z1 : j = q
                            · rw [if_pos z1]; omega
                            · rw [if_neg z1, if_neg (by omega)]
                              have := hs4 j h1 (by omega)
                              omega) (hFw.tr hw2.2)
                  have h0 := loop3 ((Lrow (AL A)).length - (p + 1)) (p + 1) e v rfl (by omega) (by omega) hv hpc hs (fun j h1 h2 => by omega) hFv
                  rw [show ((p + 1 : Nat) : Int) = (p : Int) + 1 from by omega] at h0
                  exact h0
            exact loop2 (Lrow (AL A)).length 0 (Lrow (AL A)) uA (by omega) (by omega) (h.rw.fr (hFA.1 2 (by decide) (by decide))) (PC.rf _) (fun i j hi => absurd hi (by omega)) FrM.rf _
          · skip
            refine g_aload_0 hR dX8_order_42 (g_getR hR dX8_order_43 flX8_46 (by decide) rfl rfl (g_iload_2 hR dX8_order_46 (g_aload_0 hR dX8_order_47 (g_getR hR dX8_order_48 flX8_13 (by decide) rfl rfl (g_iload_2 hR dX8_order_51 (g_aldU hR _ dX8_order_52 (by decide) rfl (by decide) (by omega) ((hFA.1 2 (by decide) (by decide)) ▸ h.rw j (by omega)) (by omega) (g_astU hR (j) dX8_order_53 (by decide) rfl (by decide) (by omega) (by omega) (fun zu1 hzu1 => (g_iinc_2 hR dX8_order_54 rfl (g_goto hR 34 dX8_order_57 (by decide) ?_))))))))))
            refine ih ((Lrow (AL A)).length - (j + 1)) (by omega) (j + 1) zu1 rfl (by omega) (fun i hi => ?_) (hFA.tr (FrM.ar hzu1 (by decide) (by decide)))
            by_cases q : i = j
            · rw [q]; exact hzu1.1
            · rw [hzu1.2.1 i q]; exact hh i (by omega)
      exact loop (Lrow (AL A)).length 0 σ (by omega) (by omega) (fun i hi => absurd hi (by omega)) FrM.rf
    · skip
      refine g_bipush hR dX8_order_29 (by decide) ?_
      exact g_iret hR dX8_order_31 rfl (by unfold sp_order; rw [if_pos (by omega), if_pos (by omega)]; skip) h
  · skip
    refine g_iconst hR dX8_order_18 ?_
    exact g_iret hR dX8_order_19 rfl (by unfold sp_order; rw [if_neg (by omega)]; skip) h
