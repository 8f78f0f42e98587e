
theorem tot_le {cl : List Nat} {K n : Nat} (h : tot cl K n) (i : Nat) : cl.getD i 0 ≤ n := by
  by_cases q : i < cl.length
  · have := sum_set cl i 0 q; have := h.2.1; omega
  · rw [getD_out (by omega)]; omega
def SkP (A : AS) (u : f_Mem) : Prop := ∃ l0, Num u 142 7 (ordF (AL A) (Lsort (AL A)) (Lfirst (AL A)) (Lrow (AL A)).length (cntL (Lrow (AL A))) [] (AM A).1 0 (1000000, l0)).2 ∧ u 137 4 = iI ((ordF (AL A) (Lsort (AL A)) (Lfirst (AL A)) (Lrow (AL A)).length (cntL (Lrow (AL A))) [] (AM A).1 0 (1000000, l0)).1 : Nat) ∧ InvC u A
theorem InvC.od {σ u : f_Mem} {A : AS} (h : InvC σ A) (hf : Fr σ u 137 144) (h1 : ∃ l, Num u 138 6 l) (h2 : ∃ l, Num u 140 7 l) (h3 : ∃ l, Num u 142 7 l) : InvC u A := by
  refine h.scr (hf.mono (by omega) (by omega)) ?_
  obtain ⟨⟨L, k1⟩, ⟨l2, k2⟩, ⟨l3, k3⟩, ⟨l4, k4⟩, k5, -, -, -⟩ := h.s
  exact ⟨⟨L, k1.fr hf (by omega)⟩, ⟨l2, k2.fr hf (by omega)⟩, ⟨l3, k3.fr hf (by omega)⟩, ⟨l4, k4.fr hf (by omega)⟩, fun j hj => (k5 j hj).fr hf (by omega), h1, h2, h3⟩
theorem InvC.od2 {σ u : f_Mem} {A : AS} (h : InvC σ A) (hf : Fr σ u 102 144) (hc : Chn u 0) (h1 : ∃ l, Num u 138 6 l) (h2 : ∃ l, Num u 140 7 l) (h3 : ∃ l, Num u 142 7 l) : InvC u A := by
  refine h.scr (hf.mono (by omega) (by omega)) ?_
  obtain ⟨⟨L, k1⟩, ⟨l2, k2⟩, ⟨l3, k3⟩, ⟨l4, k4⟩, k5, -, -, -⟩ := h.s
  exact ⟨⟨L, k1.fr hf (by omega)⟩, ⟨l2, k2.fr hf (by omega)⟩, ⟨l3, k3.fr hf (by omega)⟩, ⟨l4, k4.fr hf (by omega)⟩, fun j hj => by
    cases j with
    | zero => exact (k5 0 hj).fr hf (by omega)
    | succ j => exact hc (j + 1) (by omega) hj, h1, h2, h3⟩

theorem C_seek {E : f_E} {σ : f_Mem} {A : AS} (h : InvC σ A) (ok : ASOK A) (hN : Lrn σ 97 (some 102) (Lsort (AL A)) (Lfirst (AL A)) (AM A).1) (hl7 : (Lrow (AL A)).length ≤ 7) : FV E sC mX4_seek 15 [.ref (f_ad E 137), .ref (f_ad E 97)] σ (SkP A) := by
  have hK1 := ok.K1
  have hK6 := ok.K6
  have hkk : AK A = (Lm (AL A)).length := rfl
  have hwl := ok.wl
  have htk : ∀ j, tot (cntL ((Lrow (AL A)).take j)) (Lm (AL A)).length ((Lrow (AL A)).take j).length := fun j => tot_cnt ok.L.k (fun k hk => ok.L.2.2.1.2 k (List.mem_of_mem_take hk))
  refine FV.intro rfl (Nat.le_of_ble_eq_true rfl) (L0 := [some (.ref (f_ad E 137)), some (.ref (f_ad E 97)), none]) rfl (fun G hR => ?_)
  obtain ⟨⟨z1, hz1⟩, ⟨z2, hz2⟩, ⟨z3, hz3⟩⟩ : (∃ l, Num σ 138 6 l) ∧ (∃ l, Num σ 140 7 l) ∧ ∃ l, Num σ 142 7 l := h.s.2.2.2.2.2
  refine g_aload_0 hR dX4_seek_0 (g_getR hR dX4_seek_1 flX4_14 (by decide) rfl rfl (g_bipush hR dX4_seek_4 (by decide) (g_iconst hR dX4_seek_6 (g_callV2V hR dX4_seek_7 mlX4_30 sh_left.lt sh_left.obj rfl (Cn_fill hz1 (k := 6) (v := 0) (by omega)) (by omega) (Nat.le_of_ble_eq_true rfl) (fun u1 hu1 => (g_iconst hR dX4_seek_10 (g_istore_2 hR dX4_seek_11 rfl ?_)))))))
  have loop : ∀ (mm : Nat) (j : Nat) (u : f_Mem), mm = (Lrow (AL A)).length - j → j ≤ (Lrow (AL A)).length → Fr σ u 138 140 → Num u 138 6 (cntL ((Lrow (AL A)).take j)) → G 12 [some (.ref (f_ad E 137)), some (.ref (f_ad E 97)), some (.int (iI j))] [] u := by
    intro mm
    induction mm using Nat.strongRecOn with
    | ind mm ih =>
      intro j u hm hj hF hc
      have hL := h.L.fr hF (by omega)
      refine g_iload_2 hR dX4_seek_12 (g_aload_0 hR dX4_seek_13 (g_getR hR dX4_seek_14 flX4_26 (by decide) rfl rfl (g_getR hR dX4_seek_17 flX4_34 sh_laid.lt sh_laid.obj rfl (g_callV0P hR dX4_seek_20 mlX4_39 sh_laid.row.lt sh_laid.row.obj rfl (Cn_size hL.row) (by omega) (Nat.le_of_ble_eq_true rfl) (g_icmp_ge hR 48 dX4_seek_23 (by decide) (by omega) (by omega) (fun c23 => ?_) (fun c23 => ?_))))))
      · skip
        refine g_aload_0 hR dX4_seek_48 (g_getR hR dX4_seek_49 flX4_20 (by decide) rfl rfl (g_aload_0 hR dX4_seek_52 (g_getR hR dX4_seek_53 flX4_26 (by decide) rfl rfl (g_getR hR dX4_seek_56 flX4_34 sh_laid.lt sh_laid.obj rfl (g_callV0P hR dX4_seek_59 mlX4_39 sh_laid.row.lt sh_laid.row.obj rfl (Cn_size hL.row) (by omega) (Nat.le_of_ble_eq_true rfl) (g_iconst hR dX4_seek_62 (g_callV2V hR dX4_seek_63 mlX4_30 sh_tried.lt sh_tried.obj rfl (Cn_fill (hz2.fr hF (by omega)) (k := (Lrow (AL A)).length) (v := 0) (by omega)) (by omega) (Nat.le_of_ble_eq_true rfl) (fun u1 hu1 => (g_aload_0 hR dX4_seek_66 (g_ldc hR (1000000) dX4_seek_67 kcX4_50 (by decide) (g_put hR dX4_seek_69 fpX4_51 (by decide) rfl rfl ?_)))))))))))
        have hs9 : Fr u1 (m_set u1 137 4 (iI 1000000)) 137 138 := Fr.set (by omega)
        have hF9 : Fr σ (m_set u1 137 4 (iI 1000000)) 137 144 := (hF.mono (by omega) (by omega)).tr ((hu1.2.mono (by omega) (by omega)).tr (hs9.mono (by omega) (by omega)))
        have e9 : j = (Lrow (AL A)).length := by omega
        subst e9
        rw [List.take_length] at hc
        have k1 := (hc.fr hu1.2 (by omega)).fr hs9 (by omega)
        have k2 := hu1.1.fr hs9 (by omega)
        have k3 := ((hz3.fr hF (by omega)).fr hu1.2 (by omega)).fr hs9 (by omega)
        have hI9 := h.od hF9 ⟨_, k1⟩ ⟨_, k2⟩ ⟨_, k3⟩
        have hto := htk (Lrow (AL A)).length
        rw [List.take_length] at hto
        refine g_aload_0 hR dX4_seek_72 (g_aload_1 hR dX4_seek_73 (g_iconst hR dX4_seek_74 (g_iconst hR dX4_seek_75 (g_callS4V hR dX4_seek_76 mlX4_55 (C_try E ok.L ok.L.s ok.L.f (Lrow (AL A)).length _ 0 (AM A).1 [] 0 (cntL (Lrow (AL A))) (1000000, z3) (hN.fr hF9 (by omega)) hI9.chn hI9.L ok.w ⟨k1, ⟨_, k2, by rw [List.length_replicate]; omega, rfl⟩, k3, m_set_at⟩ hto.1 (fun i => by have := tot_le hto i; omega) (by omega) (by omega) (by omega) (Nat.le_refl _)) (by omega) (Nat.le_of_ble_eq_true rfl) (fun u2 hu2 => ?_)))))
        obtain ⟨⟨o1, ⟨t9, o2, -⟩, o3, o4⟩, oF, oC⟩ := hu2
        exact g_vret hR dX4_seek_79 rfl ⟨z3, o3, o4, hI9.od2 (oF.mono (by omega) (by omega)) oC ⟨_, o1⟩ ⟨_, o2⟩ ⟨_, o3⟩⟩
      · skip
        have hkj := ok.L.rk (show j < (Lrow (AL A)).length from by omega)
        refine g_aload_0 hR dX4_seek_26 (g_aload_0 hR dX4_seek_27 (g_getR hR dX4_seek_28 flX4_26 (by decide) rfl rfl (g_getR hR dX4_seek_31 flX4_34 sh_laid.lt sh_laid.obj rfl (g_iload_2 hR dX4_seek_34 (g_callV1P hR dX4_seek_35 mlX4_43 sh_laid.row.lt sh_laid.row.obj rfl (Cn_at hL.row (i := j) (by omega)) (by omega) (Nat.le_of_ble_eq_true rfl) (g_iconst hR dX4_seek_38 (g_callV2V hR dX4_seek_39 mlX4_47 (by decide) rfl rfl (C_incLeft hc (k := (Lrow (AL A)).getD j 0) (by have := (htk j).1; omega)) (by omega) (Nat.le_of_ble_eq_true rfl) (fun u1 hu1 => (g_iinc_2 hR dX4_seek_42 rfl (g_goto hR 12 dX4_seek_45 (by decide) ?_))))))))))
        have hc2 := hu1.1
        rw [← cntL_snoc, ← take_snoc (by omega)] at hc2
        exact ih ((Lrow (AL A)).length - (j + 1)) (by omega) (j + 1) u1 rfl (by omega) (hF.tr hu1.2) hc2
  exact loop (Lrow (AL A)).length 0 u1 (by omega) (by omega) hu1.2 hu1.1
theorem K_order {E : f_E} {σ : f_Mem} {A : AS} (h : InvC σ A) (ok : ASOK A) {a : Int} (ha : -2147483648 ≤ a ∧ a < 2147483648) : FZ E sC mX7_order 16 [.ref (f_ad E 0), .int (iI a)] σ (sp_order A a) (fun u => InvC u A) := by
  have hK1 := ok.K1
  have hK6 := ok.K6
  have hkk : AK A = (Lm (AL A)).length := rfl
  have hrl := ok.L.rl
  refine FZ.intro rfl (Nat.le_of_ble_eq_true rfl) (L0 := [some (.ref (f_ad E 0)), some (.int (iI a)), none]) rfl (fun G hR => ?_)
  refine g_aload_0 hR dX7_order_0 (g_getR hR dX7_order_1 flX7_34 (by decide) rfl rfl (g_getR hR dX7_order_4 flX7_147 sh_laid.lt sh_laid.obj rfl (g_callV0P hR dX7_order_7 mlX7_113 sh_laid.row.lt sh_laid.row.obj rfl (Cn_size h.L.row) (by omega) (Nat.le_of_ble_eq_true rfl) (g_istore_2 hR dX7_order_10 rfl (g_iload_1 hR dX7_order_11 (g_iconst hR dX7_order_12 (g_iload_2 hR dX7_order_13 (g_iconst hR dX7_order_14 (g_isub hR dX7_order_15 (g_callS3P hR dX7_order_16 mlX7_105 (C_isWithin ha (by omega) (by omega)) (by omega) (Nat.le_of_ble_eq_true rfl) (g_if_ne hR 24 dX7_order_19 (by decide) (by split <;> omega) (fun c19 => ?_) (fun c19 => ?_))))))))))))
  · skip
    refine g_iload_2 hR dX7_order_24 (g_bipush hR dX7_order_25 (by decide) (g_icmp_le hR 33 dX7_order_27 (by decide) (by omega) (by omega) (fun c27 => ?_) (fun c27 => ?_)))
    · skip
      refine g_aload_0 hR dX7_order_33 (g_getR hR dX7_order_34 flX7_77 (by decide) rfl rfl (g_aload_0 hR dX7_order_37 (g_aload_0 hR dX7_order_38 (g_getR hR dX7_order_39 flX7_34 (by decide) rfl rfl (g_getI hR _ dX7_order_42 flX7_167 sh_laid.lt sh_laid.obj rfl h.L.sort (g_callV1R hR dX7_order_45 mlX7_160 (by decide) rfl rfl (C_learnerNow h ok ok.L.s) (by omega) (Nat.le_of_ble_eq_true rfl) (fun u1 hu1 => ?_)))))))
      have hI1 := h.l0 hu1.2 hu1.1.x
      refine g_callV1V hR dX7_order_48 mlX7_208 (by decide) rfl rfl (C_seek hI1 ok hu1.1 (by omega)) (by omega) (Nat.le_of_ble_eq_true rfl) (fun u2 hu2 => ?_)
      obtain ⟨l0, o3, o4, hI2⟩ := hu2
      rw [ordB_any ok (by omega)] at o3 o4
      refine g_iload_1 hR dX7_order_51 (g_iconst hR dX7_order_52 (g_icmp_ne hR 66 dX7_order_53 (by decide) (by omega) (by omega) (fun c53 => ?_) (fun c53 => ?_)))
      · skip
        refine g_aload_0 hR dX7_order_66 (g_getR hR dX7_order_67 flX7_77 (by decide) rfl rfl (g_getR hR dX7_order_70 flX7_214 (by decide) rfl rfl ?_))
        obtain ⟨aq, rfl⟩ : ∃ aq : Nat, a = aq := ⟨a.toNat, by omega⟩
        refine g_iload_1 hR dX7_order_73 (g_callV1P hR dX7_order_74 mlX7_128 sh_best.lt sh_best.obj rfl (Cn_at o3 (i := aq) (by omega)) (by omega) (Nat.le_of_ble_eq_true rfl) ?_)
        exact g_iret hR dX7_order_77 rfl (by unfold sp_order; rw [if_pos (by omega), if_neg (by omega), if_neg (by omega)]; rfl) hI2
      · skip
        refine g_aload_0 hR dX7_order_56 (g_getR hR dX7_order_57 flX7_77 (by decide) rfl rfl (g_getI hR _ dX7_order_60 flX7_211 (by decide) rfl rfl o4 (g_goto hR 77 dX7_order_63 (by decide) ?_)))
        exact g_iret hR dX7_order_77 rfl (by unfold sp_order; rw [if_pos (by omega), if_neg (by omega), if_pos (by omega)]; skip) hI2
    · skip
      refine g_bipush hR dX7_order_30 (by decide) ?_
      exact g_iret hR dX7_order_32 rfl (by unfold sp_order; rw [if_pos (by omega), if_pos (by omega)]; skip) h
  · skip
    refine g_iconst hR dX7_order_22 ?_
    exact g_iret hR dX7_order_23 rfl (by unfold sp_order; rw [if_neg (by omega)]; skip) h
