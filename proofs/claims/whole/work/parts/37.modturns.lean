
theorem LesOK.w9 {L : Les} (h : LesOK L) (k : Nat) : (Lw L).getD k 0 ≤ 20 := by
  by_cases q : k < (Lw L).length
  · exact h.2.1.2.2.2.1 _ (getD_mem q)
  · rw [getD_out (by omega)]; omega

theorem C8_worstDay {E : f_E} {σ : f_Mem} {L : Les} {M : Mms} (hS : StM σ 3 0 M) (hL : LsM σ 1 L) (hH : HdM σ L) (ok : LesOK L) (hw : WOK L M.1) (h6h : M.2.1.length = 6) : FZ E sM mX8_worstDay 3 [.ref (f_ad E 0)] σ (oS L (Lsort L) (Lfirst L) (mS L (Lsort L) (Lfirst L) 0) M.1 : Nat) (fun u => u = σ) := by
  have hK6 := ok.k
  have hs4 := ok.s
  have hf6 := ok.f
  refine FZ.intro rfl (Nat.le_of_ble_eq_true rfl) (L0 := [some (.ref (f_ad E 0)), none, none, none, none]) rfl (fun G hR => ?_)
  refine g_iconst hR dX8_worstDay_0 (g_istore_1 hR dX8_worstDay_1 rfl (g_iconst hR dX8_worstDay_2 (g_istore_2 hR dX8_worstDay_3 rfl ?_)))
  have loop : ∀ (mm : Nat) (k : Nat), mm = (Lm L).length - k → k ≤ (Lm L).length → ∀ x3 x4 : Option Value, G 4 [some (.ref (f_ad E 0)), some (.int (iI (maxN (oG L (Lsort L) (Lfirst L) (mS L (Lsort L) (Lfirst L) 0) M.1) k : Nat))), some (.int (iI k)), x3, x4] [] σ := by
    intro mm
    induction mm using Nat.strongRecOn with
    | ind mm ih =>
      intro k hm hk x3 x4
      have ho9 := oc_le L k (does L (Lsort L) (Lfirst L) k M.1)
      have hw9 := ok.w9 k
      have hm9 := maxN_le (g := (oG L (Lsort L) (Lfirst L) (mS L (Lsort L) (Lfirst L) 0) M.1)) (B := 20) (fun k => by have := lo_le ok k (does L (Lsort L) (Lfirst L) k M.1); show lo L k _ + 0 ≤ 20; omega) k
      refine g_iload_2 hR dX8_worstDay_4 (g_aload_0 hR dX8_worstDay_5 (g_getI hR _ dX8_worstDay_6 flX8_75 (by decide) rfl rfl hH.1 (g_icmp_ge hR 71 dX8_worstDay_9 (by decide) (by omega) (by omega) (fun zc9 => ?_) (fun zc9 => ?_))))
      · skip
        refine g_iload_1 hR dX8_worstDay_71 ?_
        exact g_iret hR dX8_worstDay_72 rfl (by rw [show k = (Lm L).length from by omega]; rfl) rfl
      · skip
        refine g_aload_0 hR dX8_worstDay_12 (g_aload_0 hR dX8_worstDay_13 (g_getI hR _ dX8_worstDay_14 flX8_136 (by decide) rfl rfl hH.2.1 (g_aload_0 hR dX8_worstDay_17 (g_getI hR _ dX8_worstDay_18 flX8_139 (by decide) rfl rfl hH.2.2 (g_iload_2 hR dX8_worstDay_21 (g_callV3P hR dX8_worstDay_22 mlX8_166 (by decide) rfl rfl (C8_doesBy hS hL ok hw (k := k) hs4 hf6 (by omega)) (by decide) (Nat.le_of_ble_eq_true rfl) (g_istore_3 hR dX8_worstDay_25 rfl (g_aload_0 hR dX8_worstDay_26 (g_iload_2 hR dX8_worstDay_27 (g_iload_3 hR dX8_worstDay_28 (g_callV2P hR dX8_worstDay_29 mlX8_173 (by decide) rfl rfl (C8_goes hL ok (k := k) (by omega) (does_lt L (Lsort L) hf6 k M.1)) (by decide) (Nat.le_of_ble_eq_true rfl) (g_iconst hR dX8_worstDay_32 (g_icmp_ne hR 49 dX8_worstDay_33 (by decide) (by omega) (by omega) (fun zc33 => ?_) (fun zc33 => ?_))))))))))))))
        · skip
          refine g_iconst hR dX8_worstDay_49 (g_istore_4 hR dX8_worstDay_50 rfl (g_iload_4 hR dX8_worstDay_52 (g_iload_1 hR dX8_worstDay_54 (g_icmp_le hR 63 dX8_worstDay_55 (by decide) (by omega) (by omega) (fun zc55 => ?_) (fun zc55 => ?_)))))
          · skip
            refine g_iload_1 hR dX8_worstDay_63 (g_istore_1 hR dX8_worstDay_64 rfl (g_iinc_2 hR dX8_worstDay_65 rfl (g_goto hR 4 dX8_worstDay_68 (by decide) ?_)))
            have hlo : lo L k (does L (Lsort L) (Lfirst L) k M.1) = 0 := if_neg (by omega)
            have e9 : maxN (oG L (Lsort L) (Lfirst L) (mS L (Lsort L) (Lfirst L) 0) M.1) (k + 1) = maxN (oG L (Lsort L) (Lfirst L) (mS L (Lsort L) (Lfirst L) 0) M.1) k := by
              show max (maxN (oG L (Lsort L) (Lfirst L) (mS L (Lsort L) (Lfirst L) 0) M.1) k) (lo L k (does L (Lsort L) (Lfirst L) k M.1) + 0) = _
              omega
            have h9 := ih ((Lm L).length - (k + 1)) (by omega) (k + 1) rfl (by omega)
            rw [e9] at h9
            exact h9 _ _
          · skip
            exact absurd zc55 (by omega)
        · skip
          refine g_aload_0 hR dX8_worstDay_36 (g_getR hR dX8_worstDay_37 flX8_7 (by decide) rfl rfl (g_iconst hR dX8_worstDay_40 (g_iload_2 hR dX8_worstDay_41 (g_imul hR dX8_worstDay_42 (g_iconst hR dX8_worstDay_43 (g_iadd hR dX8_worstDay_44 (g_aldU hR _ dX8_worstDay_45 (by decide) rfl (by decide) (by omega) (hL k (by omega)).2.2.2.1 (by omega) (g_goto hR 50 dX8_worstDay_46 (by decide) (g_istore_4 hR dX8_worstDay_50 rfl (g_iload_4 hR dX8_worstDay_52 (g_iload_1 hR dX8_worstDay_54 (g_icmp_le hR 63 dX8_worstDay_55 (by decide) (by omega) (by omega) (fun zc55 => ?_) (fun zc55 => ?_)))))))))))))
          · skip
            refine g_iload_1 hR dX8_worstDay_63 (g_istore_1 hR dX8_worstDay_64 rfl (g_iinc_2 hR dX8_worstDay_65 rfl (g_goto hR 4 dX8_worstDay_68 (by decide) ?_)))
            have hlo : lo L k (does L (Lsort L) (Lfirst L) k M.1) = (Lw L).getD k 0 := if_pos (by omega)
            have e9 : maxN (oG L (Lsort L) (Lfirst L) (mS L (Lsort L) (Lfirst L) 0) M.1) (k + 1) = maxN (oG L (Lsort L) (Lfirst L) (mS L (Lsort L) (Lfirst L) 0) M.1) k := by
              show max (maxN (oG L (Lsort L) (Lfirst L) (mS L (Lsort L) (Lfirst L) 0) M.1) k) (lo L k (does L (Lsort L) (Lfirst L) k M.1) + 0) = _
              omega
            have h9 := ih ((Lm L).length - (k + 1)) (by omega) (k + 1) rfl (by omega)
            rw [e9] at h9
            exact h9 _ _
          · skip
            refine g_iload_4 hR dX8_worstDay_58 (g_goto hR 64 dX8_worstDay_60 (by decide) (g_istore_1 hR dX8_worstDay_64 rfl (g_iinc_2 hR dX8_worstDay_65 rfl (g_goto hR 4 dX8_worstDay_68 (by decide) ?_))))
            have hlo : lo L k (does L (Lsort L) (Lfirst L) k M.1) = (Lw L).getD k 0 := if_pos (by omega)
            have e9 : maxN (oG L (Lsort L) (Lfirst L) (mS L (Lsort L) (Lfirst L) 0) M.1) (k + 1) = (Lw L).getD k 0 := by
              show max (maxN (oG L (Lsort L) (Lfirst L) (mS L (Lsort L) (Lfirst L) 0) M.1) k) (lo L k (does L (Lsort L) (Lfirst L) k M.1) + 0) = _
              omega
            have h9 := ih ((Lm L).length - (k + 1)) (by omega) (k + 1) rfl (by omega)
            rw [e9] at h9
            exact h9 _ _
  exact loop (Lm L).length 0 (by omega) (by omega) _ _
theorem C8_oneRound {E : f_E} {σ : f_Mem} {L : Les} {M : Mms} (hS : StM σ 3 0 M) (hL : LsM σ 1 L) (hH : HdM σ L) (ok : LesOK L) (hw : WOK L M.1) (h6h : M.2.1.length = 6) : FZ E sM mX8_oneRound 4 [.ref (f_ad E 0)] σ (mS L (Lsort L) (Lfirst L) 1 M.1 : Nat) (fun u => StM u 3 0 M ∧ FrM [3, 18] [] σ u) := by
  have hK6 := ok.k
  have hs4 := ok.s
  have hf6 := ok.f
  refine FZ.intro rfl (Nat.le_of_ble_eq_true rfl) (L0 := [some (.ref (f_ad E 0)), none, none, none]) rfl (fun G hR => ?_)
  refine g_aload_0 hR dX8_oneRound_0 (g_aload_0 hR dX8_oneRound_1 (g_getR hR dX8_oneRound_2 flX8_61 (by decide) rfl rfl (g_aload_0 hR dX8_oneRound_5 (g_getR hR dX8_oneRound_6 flX8_16 (by decide) rfl rfl (g_callV2V hR dX8_oneRound_9 mlX8_223 (by decide) rfl rfl (C8_copyTo (a := 18) (b := 3) ⟨by decide, rfl, by decide⟩ ⟨by decide, rfl, by decide⟩ (by decide)) (by decide) (Nat.le_of_ble_eq_true rfl) (fun zu1 hzu1 => ?_))))))
  have hS1 := hS.fr (hzu1.2.1 3 (by decide) (by decide))
  have hA1 := hzu1.1.st hS
  have hL1 := hL.fr (hzu1.2.1 1 (by decide) (by decide))
  have hH1 := hH.fr (fun k _ => hzu1.2.2 k (by simp))
  refine g_aload_0 hR dX8_oneRound_12 (g_callV0P hR dX8_oneRound_13 mlX8_227 (by decide) rfl rfl (C8_worstDay hS1 hL1 hH1 ok hw h6h) (by decide) (Nat.le_of_ble_eq_true rfl) ?_)
  have hS2 := hS1
  have hA2 := hA1
  have hF2 : FrM [3, 18] [] σ zu1 := hzu1.2.mono (by decide) (by decide)
  refine g_istore_1 hR dX8_oneRound_16 rfl (g_iconst hR dX8_oneRound_17 (g_istore_2 hR dX8_oneRound_18 rfl ?_))
  have loop : ∀ (mm : Nat) (j : Nat) (u : f_Mem), mm = 6 * (Lm L).length - j → j ≤ 6 * (Lm L).length → StM u 3 0 M → StM u 18 0 M → FrM [3, 18] [] σ u → ∀ x3 : Option Value, G 19 [some (.ref (f_ad E 0)), some (.int (iI (minN (fun w => oS L (Lsort L) (Lfirst L) (mS L (Lsort L) (Lfirst L) 0) (w :: M.1)) (oS L (Lsort L) (Lfirst L) (mS L (Lsort L) (Lfirst L) 0) M.1) j : Nat))), some (.int (iI j)), x3] [] u := by
    intro mm
    induction mm using Nat.strongRecOn with
    | ind mm ih =>
      intro j u hm hj hS3 hA3 hF3 x3
      have hb9 := minN_le (fun w => oS L (Lsort L) (Lfirst L) (mS L (Lsort L) (Lfirst L) 0) (w :: M.1)) (oS L (Lsort L) (Lfirst L) (mS L (Lsort L) (Lfirst L) 0) M.1) j
      have hb8 := oS_le ok (Lsort L) (Lfirst L) (mS_le ok (Lsort L) (Lfirst L) 0) M.1
      have hb7 := oS_le ok (Lsort L) (Lfirst L) (mS_le ok (Lsort L) (Lfirst L) 0) (j :: M.1)
      refine g_iload_2 hR dX8_oneRound_19 (g_bipush hR dX8_oneRound_20 (by decide) (g_aload_0 hR dX8_oneRound_22 (g_getI hR _ dX8_oneRound_23 flX8_75 (by decide) rfl rfl ((hF3.2 1 (by decide)).trans hH.1) (g_imul hR dX8_oneRound_26 (g_icmp_ge hR 80 dX8_oneRound_27 (by decide) (by omega) (by omega) (fun zc27 => ?_) (fun zc27 => ?_))))))
      · skip
        refine g_iload_1 hR dX8_oneRound_80 ?_
        exact g_iret hR dX8_oneRound_81 rfl (by rw [show j = 6 * (Lm L).length from by omega]; rfl) ⟨hS3, hF3⟩
      · skip
        refine g_iload_1 hR dX8_oneRound_30 (g_if_le hR 80 dX8_oneRound_31 (by decide) (by omega) (fun zc31 => ?_) (fun zc31 => ?_))
        · skip
          refine g_iload_1 hR dX8_oneRound_80 ?_
          have hz9 := minN_mono (fun w => oS L (Lsort L) (Lfirst L) (mS L (Lsort L) (Lfirst L) 0) (w :: M.1)) (oS L (Lsort L) (Lfirst L) (mS L (Lsort L) (Lfirst L) 0) M.1) hj
          exact g_iret hR dX8_oneRound_81 rfl (by show _ = ((minN (fun w => oS L (Lsort L) (Lfirst L) (mS L (Lsort L) (Lfirst L) 0) (w :: M.1)) (oS L (Lsort L) (Lfirst L) (mS L (Lsort L) (Lfirst L) 0) M.1) (6 * (Lm L).length) : Nat) : Int); omega) ⟨hS3, hF3⟩
        · skip
          refine g_aload_0 hR dX8_oneRound_34 (g_iload_2 hR dX8_oneRound_35 (g_bipush hR dX8_oneRound_36 (by decide) (g_idiv hR dX8_oneRound_38 (by omega) (by omega) (g_iload_2 hR dX8_oneRound_39 (g_bipush hR dX8_oneRound_40 (by decide) (g_irem hR dX8_oneRound_42 (by omega) (by omega) ?_))))))
          rw [show ((j : Nat) : Int) / 6 = ((j / 6 : Nat) : Int) from rfl, show ((j : Nat) : Int) % 6 = ((j % 6 : Nat) : Int) from rfl]
          refine g_callV2V hR dX8_oneRound_43 mlX8_176 (by decide) rfl rfl (C8_hear (k := j / 6) (d := j % 6) hS3) (by decide) (Nat.le_of_ble_eq_true rfl) (fun zu4 hzu4 => ?_)
          rw [Nat.div_add_mod] at hzu4
          have hF4 := hF3.tr (hzu4.2.mono (by decide) (by decide))
          have hA4 := hA3.fr (hzu4.2.1 18 (by decide) (by decide))
          have hL4 := hL.fr (hF4.1 1 (by decide) (by decide))
          have hH4 := hH.fr (fun k hk => hF4.2 k (by rcases hk with rfl | rfl | rfl <;> decide))
          have hw4 : WOK L (j :: M.1) := fun v hv => by
            rcases List.mem_cons.mp hv with q | q
            · rw [q]; omega
            · exact hw v q
          refine g_aload_0 hR dX8_oneRound_46 (g_callV0P hR dX8_oneRound_47 mlX8_227 (by decide) rfl rfl ((show FZ E sM mX8_worstDay 3 [.ref (f_ad E 0)] zu4 (oS L (Lsort L) (Lfirst L) (mS L (Lsort L) (Lfirst L) 0) (j :: M.1) : Nat) (fun u => u = zu4) from C8_worstDay (M := (j :: M.1, M.2)) hzu4.1 hL4 hH4 ok hw4 h6h)) (by decide) (Nat.le_of_ble_eq_true rfl) ?_)
          have hF5 := hF4
          have hA5 := hA4
          refine g_istore_3 hR dX8_oneRound_50 rfl (g_iload_3 hR dX8_oneRound_51 (g_iload_1 hR dX8_oneRound_52 (g_icmp_ge hR 60 dX8_oneRound_53 (by decide) (by omega) (by omega) (fun zc53 => ?_) (fun zc53 => ?_))))
          · skip
            refine g_iload_1 hR dX8_oneRound_60 (g_istore_1 hR dX8_oneRound_61 rfl (g_aload_0 hR dX8_oneRound_62 (g_aload_0 hR dX8_oneRound_63 (g_getR hR dX8_oneRound_64 flX8_16 (by decide) rfl rfl (g_aload_0 hR dX8_oneRound_67 (g_getR hR dX8_oneRound_68 flX8_61 (by decide) rfl rfl (g_callV2V hR dX8_oneRound_71 mlX8_223 (by decide) rfl rfl (C8_copyTo (a := 3) (b := 18) ⟨by decide, rfl, by decide⟩ ⟨by decide, rfl, by decide⟩ (by decide)) (by decide) (Nat.le_of_ble_eq_true rfl) (fun zu6 hzu6 => ?_))))))))
            have hS6 := hzu6.1.st hA5
            have hA6 := hA5.fr (hzu6.2.1 18 (by decide) (by decide))
            have hF6 := hF5.tr (hzu6.2.mono (by decide) (by decide))
            refine g_iinc_2 hR dX8_oneRound_74 rfl (g_goto hR 19 dX8_oneRound_77 (by decide) ?_)
            have e9 : minN (fun w => oS L (Lsort L) (Lfirst L) (mS L (Lsort L) (Lfirst L) 0) (w :: M.1)) (oS L (Lsort L) (Lfirst L) (mS L (Lsort L) (Lfirst L) 0) M.1) (j + 1) = minN (fun w => oS L (Lsort L) (Lfirst L) (mS L (Lsort L) (Lfirst L) 0) (w :: M.1)) (oS L (Lsort L) (Lfirst L) (mS L (Lsort L) (Lfirst L) 0) M.1) j := by
              show min (minN (fun w => oS L (Lsort L) (Lfirst L) (mS L (Lsort L) (Lfirst L) 0) (w :: M.1)) (oS L (Lsort L) (Lfirst L) (mS L (Lsort L) (Lfirst L) 0) M.1) j) (oS L (Lsort L) (Lfirst L) (mS L (Lsort L) (Lfirst L) 0) (j :: M.1)) = _
              omega
            have h9 := ih (6 * (Lm L).length - (j + 1)) (by omega) (j + 1) zu6 rfl (by omega) hS6 hA6 hF6
            rw [e9] at h9
            exact h9 _
          · skip
            refine g_iload_3 hR dX8_oneRound_56 (g_goto hR 61 dX8_oneRound_57 (by decide) (g_istore_1 hR dX8_oneRound_61 rfl (g_aload_0 hR dX8_oneRound_62 (g_aload_0 hR dX8_oneRound_63 (g_getR hR dX8_oneRound_64 flX8_16 (by decide) rfl rfl (g_aload_0 hR dX8_oneRound_67 (g_getR hR dX8_oneRound_68 flX8_61 (by decide) rfl rfl (g_callV2V hR dX8_oneRound_71 mlX8_223 (by decide) rfl rfl (C8_copyTo (a := 3) (b := 18) ⟨by decide, rfl, by decide⟩ ⟨by decide, rfl, by decide⟩ (by decide)) (by decide) (Nat.le_of_ble_eq_true rfl) (fun zu6 hzu6 => ?_)))))))))
            have hS6 := hzu6.1.st hA5
            have hA6 := hA5.fr (hzu6.2.1 18 (by decide) (by decide))
            have hF6 := hF5.tr (hzu6.2.mono (by decide) (by decide))
            refine g_iinc_2 hR dX8_oneRound_74 rfl (g_goto hR 19 dX8_oneRound_77 (by decide) ?_)
            have e9 : minN (fun w => oS L (Lsort L) (Lfirst L) (mS L (Lsort L) (Lfirst L) 0) (w :: M.1)) (oS L (Lsort L) (Lfirst L) (mS L (Lsort L) (Lfirst L) 0) M.1) (j + 1) = oS L (Lsort L) (Lfirst L) (mS L (Lsort L) (Lfirst L) 0) (j :: M.1) := by
              show min (minN (fun w => oS L (Lsort L) (Lfirst L) (mS L (Lsort L) (Lfirst L) 0) (w :: M.1)) (oS L (Lsort L) (Lfirst L) (mS L (Lsort L) (Lfirst L) 0) M.1) j) (oS L (Lsort L) (Lfirst L) (mS L (Lsort L) (Lfirst L) 0) (j :: M.1)) = _
              omega
            have h9 := ih (6 * (Lm L).length - (j + 1)) (by omega) (j + 1) zu6 rfl (by omega) hS6 hA6 hF6
            rw [e9] at h9
            exact h9 _
  exact loop (6 * (Lm L).length) 0 zu1 (by omega) (by omega) hS2 hA2 hF2 _
theorem C8_worstTwo {E : f_E} {σ : f_Mem} {L : Les} {M : Mms} (hS : StM σ 3 0 M) (hL : LsM σ 1 L) (hH : HdM σ L) (ok : LesOK L) (hw : WOK L M.1) (h6h : M.2.1.length = 6) : FZ E sM mX8_worstTwo 5 [.ref (f_ad E 0)] σ (oS L (Lsort L) (Lfirst L) (mS L (Lsort L) (Lfirst L) 1) M.1 : Nat) (fun u => StM u 3 0 M ∧ FrM [3, 9, 18] [17] σ u) := by
  have hK6 := ok.k
  have hs4 := ok.s
  have hf6 := ok.f
  refine FZ.intro rfl (Nat.le_of_ble_eq_true rfl) (L0 := [some (.ref (f_ad E 0)), none, none, none, none]) rfl (fun G hR => ?_)
  refine g_aload_0 hR dX8_worstTwo_0 (g_callV0V hR dX8_worstTwo_1 mlX8_188 (by decide) rfl rfl (C8_putAside) (by decide) (Nat.le_of_ble_eq_true rfl) (fun zu1 hzu1 => (g_iconst hR dX8_worstTwo_4 (g_istore_1 hR dX8_worstTwo_5 rfl (g_iconst hR dX8_worstTwo_6 (g_istore_2 hR dX8_worstTwo_7 rfl ?_))))))
  have loop : ∀ (mm : Nat) (k : Nat) (u : f_Mem), mm = (Lm L).length - k → k ≤ (Lm L).length → StM u 3 0 M → FrM [3, 18] [17] zu1 u → ∀ x3 x4 : Option Value, G 8 [some (.ref (f_ad E 0)), some (.int (iI (maxN (oG L (Lsort L) (Lfirst L) (mS L (Lsort L) (Lfirst L) 1) M.1) k : Nat))), some (.int (iI k)), x3, x4] [] u := by
    intro mm
    induction mm using Nat.strongRecOn with
    | ind mm ih =>
      intro k u hm hk hS1 hF1 x3 x4
      have hL1 := (hL.fr (hzu1.2.1 1 (by decide) (by decide))).fr (hF1.1 1 (by decide) (by decide))
      have hH1 : HdM u L := (hH.fr (fun k _ => hzu1.2.2 k (by simp))).fr (fun k hk => hF1.2 k (by rcases hk with rfl | rfl | rfl <;> decide))
      have hb9 := maxN_le (g := (oG L (Lsort L) (Lfirst L) (mS L (Lsort L) (Lfirst L) 1) M.1)) (B := 40) (fun k => by have h1 := lo_le ok k (does L (Lsort L) (Lfirst L) k M.1); have h2 := mS_le ok (Lsort L) (Lfirst L) 1 (dayR L (Lsort L) (Lfirst L) k M.1); unfold oG; omega) k
      refine g_iload_2 hR dX8_worstTwo_8 (g_aload_0 hR dX8_worstTwo_9 (g_getI hR _ dX8_worstTwo_10 flX8_75 (by decide) rfl rfl hH1.1 (g_icmp_ge hR 81 dX8_worstTwo_13 (by decide) (by omega) (by omega) (fun zc13 => ?_) (fun zc13 => ?_))))
      · skip
        refine g_iload_1 hR dX8_worstTwo_81 ?_
        exact g_iret hR dX8_worstTwo_82 rfl (by rw [show k = (Lm L).length from by omega]; rfl) ⟨hS1, (hzu1.2.mono (by decide) (by decide)).tr (hF1.mono (by decide) (by decide))⟩
      · skip
        refine g_aload_0 hR dX8_worstTwo_16 (g_getR hR dX8_worstTwo_17 flX8_16 (by decide) rfl rfl (g_bipush hR dX8_worstTwo_20 (by decide) (g_aldU hR _ dX8_worstTwo_22 (by decide) rfl (by decide) (by omega) hS1.lost (by omega) (g_istore_3 hR dX8_worstTwo_23 rfl (g_aload_0 hR dX8_worstTwo_24 (g_aload_0 hR dX8_worstTwo_25 (g_getI hR _ dX8_worstTwo_26 flX8_136 (by decide) rfl rfl hH1.2.1 (g_aload_0 hR dX8_worstTwo_29 (g_getI hR _ dX8_worstTwo_30 flX8_139 (by decide) rfl rfl hH1.2.2 (g_iload_2 hR dX8_worstTwo_33 (g_callV3Z hR dX8_worstTwo_34 mlX8_185 (by decide) rfl rfl (C8_day hS1 hL1 ok hw h6h (k := k) hs4 hf6 (by omega)) (by decide) (Nat.le_of_ble_eq_true rfl) (fun zu2 hzu2 => ?_))))))))))))
        have hF2 : FrM [3, 18] [17] zu1 zu2 := hF1.tr (hzu2.2.2.mono (by decide) (by decide))
        have hL2 := (hL.fr (hzu1.2.1 1 (by decide) (by decide))).fr (hF2.1 1 (by decide) (by decide))
        have hH2 : HdM zu2 L := (hH.fr (fun k _ => hzu1.2.2 k (by simp))).fr (fun k hk => hF2.2 k (by rcases hk with rfl | rfl | rfl <;> decide))
        refine g_pop hR dX8_worstTwo_37 rfl (g_aload_0 hR dX8_worstTwo_38 (g_getR hR dX8_worstTwo_39 flX8_16 (by decide) rfl rfl (g_bipush hR dX8_worstTwo_42 (by decide) (g_aldU hR _ dX8_worstTwo_44 (by decide) rfl (by decide) (by omega) hzu2.1.lost (by omega) (g_iload_3 hR dX8_worstTwo_45 (g_isub hR dX8_worstTwo_46 ?_))))))
        rw [show (((dayU L (Lsort L) (Lfirst L) k M).2.2.2.1 : Nat) : Int) - (M.2.2.2.1 : Nat) = (lo L k (does L (Lsort L) (Lfirst L) k M.1) : Nat) from castsub _ _]
        refine g_istore_4 hR dX8_worstTwo_47 rfl (g_iload_4 hR dX8_worstTwo_49 (g_aload_0 hR dX8_worstTwo_51 (g_callV0Z hR dX8_worstTwo_52 mlX8_230 (by decide) rfl rfl (C8_oneRound hzu2.1 hL2 hH2 ok (dayR_ok ok hw (show k < (Lm L).length from by omega) _ _) (List.length_set.trans h6h)) (by decide) (Nat.le_of_ble_eq_true rfl) (fun zu3 hzu3 => ?_))))
        have hF3 : FrM [3, 18] [17] zu1 zu3 := hF2.tr (hzu3.2.mono (by decide) (by decide))
        refine g_iadd hR dX8_worstTwo_55 (g_istore_4 hR dX8_worstTwo_56 rfl (g_aload_0 hR dX8_worstTwo_58 (g_callV0V hR dX8_worstTwo_59 mlX8_194 (by decide) rfl rfl (C8_takeBack) (by decide) (Nat.le_of_ble_eq_true rfl) (fun zu4 hzu4 => ?_))))
        have hF4 : FrM [3, 18] [17] zu1 zu4 := hF3.tr (hzu4.2.mono (by decide) (by decide))
        have hS4 := hS.cp (fun i hi => (hzu4.1 i hi).trans ((congrFun (hF3.1 9 (by decide) (by decide)) (0 + i)).trans (hzu1.1 i hi)))
        have hb6 := mS_le ok (Lsort L) (Lfirst L) 1 (dayR L (Lsort L) (Lfirst L) k M.1)
        have hb5 := lo_le ok k (does L (Lsort L) (Lfirst L) k M.1)
        refine g_iload_4 hR dX8_worstTwo_62 (g_iload_1 hR dX8_worstTwo_64 (g_icmp_le hR 73 dX8_worstTwo_65 (by decide) (by show -2147483648 ≤ (lo L k (does L (Lsort L) (Lfirst L) k M.1) : Nat) + ((mS L (Lsort L) (Lfirst L) 1 (dayR L (Lsort L) (Lfirst L) k M.1) : Nat) : Int) ∧ (lo L k (does L (Lsort L) (Lfirst L) k M.1) : Nat) + ((mS L (Lsort L) (Lfirst L) 1 (dayR L (Lsort L) (Lfirst L) k M.1) : Nat) : Int) < 2147483648; omega) (by omega) (fun zc65 => ?_) (fun zc65 => ?_)))
        · skip
          have zc65 : (lo L k (does L (Lsort L) (Lfirst L) k M.1) : Nat) + ((mS L (Lsort L) (Lfirst L) 1 (dayR L (Lsort L) (Lfirst L) k M.1) : Nat) : Int) ≤ ((maxN (oG L (Lsort L) (Lfirst L) (mS L (Lsort L) (Lfirst L) 1) M.1) k : Nat) : Int) := zc65
          refine g_iload_1 hR dX8_worstTwo_73 (g_istore_1 hR dX8_worstTwo_74 rfl (g_iinc_2 hR dX8_worstTwo_75 rfl (g_goto hR 8 dX8_worstTwo_78 (by decide) ?_)))
          have e9 : maxN (oG L (Lsort L) (Lfirst L) (mS L (Lsort L) (Lfirst L) 1) M.1) (k + 1) = maxN (oG L (Lsort L) (Lfirst L) (mS L (Lsort L) (Lfirst L) 1) M.1) k := by
            show max (maxN (oG L (Lsort L) (Lfirst L) (mS L (Lsort L) (Lfirst L) 1) M.1) k) (lo L k (does L (Lsort L) (Lfirst L) k M.1) + mS L (Lsort L) (Lfirst L) 1 (dayR L (Lsort L) (Lfirst L) k M.1)) = _
            omega
          have h9 := ih ((Lm L).length - (k + 1)) (by omega) (k + 1) zu4 rfl (by omega) hS4 hF4
          rw [e9] at h9
          exact h9 _ _
        · skip
          have zc65 : ((maxN (oG L (Lsort L) (Lfirst L) (mS L (Lsort L) (Lfirst L) 1) M.1) k : Nat) : Int) < (lo L k (does L (Lsort L) (Lfirst L) k M.1) : Nat) + ((mS L (Lsort L) (Lfirst L) 1 (dayR L (Lsort L) (Lfirst L) k M.1) : Nat) : Int) := zc65
          refine g_iload_4 hR dX8_worstTwo_68 (g_goto hR 74 dX8_worstTwo_70 (by decide) (g_istore_1 hR dX8_worstTwo_74 rfl (g_iinc_2 hR dX8_worstTwo_75 rfl (g_goto hR 8 dX8_worstTwo_78 (by decide) ?_))))
          have e9 : maxN (oG L (Lsort L) (Lfirst L) (mS L (Lsort L) (Lfirst L) 1) M.1) (k + 1) = lo L k (does L (Lsort L) (Lfirst L) k M.1) + mS L (Lsort L) (Lfirst L) 1 (dayR L (Lsort L) (Lfirst L) k M.1) := by
            show max (maxN (oG L (Lsort L) (Lfirst L) (mS L (Lsort L) (Lfirst L) 1) M.1) k) (lo L k (does L (Lsort L) (Lfirst L) k M.1) + mS L (Lsort L) (Lfirst L) 1 (dayR L (Lsort L) (Lfirst L) k M.1)) = _
            omega
          have h9 := ih ((Lm L).length - (k + 1)) (by omega) (k + 1) zu4 rfl (by omega) hS4 hF4
          rw [e9] at h9
          exact h9 _ _
  exact loop (Lm L).length 0 zu1 (by omega) (by omega) (hS.fr (hzu1.2.1 3 (by decide) (by decide))) FrM.rf _ _
theorem C8_twoRounds {E : f_E} {σ : f_Mem} {L : Les} {M : Mms} (hS : StM σ 3 0 M) (hL : LsM σ 1 L) (hH : HdM σ L) (ok : LesOK L) (hw : WOK L M.1) (h6h : M.2.1.length = 6) : FZ E sM mX8_twoRounds 6 [.ref (f_ad E 0)] σ (mS L (Lsort L) (Lfirst L) 2 M.1 : Nat) (fun u => StM u 3 0 M ∧ FrM [3, 9, 17, 18] [17] σ u) := by
  have hK6 := ok.k
  have hs4 := ok.s
  have hf6 := ok.f
  refine FZ.intro rfl (Nat.le_of_ble_eq_true rfl) (L0 := [some (.ref (f_ad E 0)), none, none, none]) rfl (fun G hR => ?_)
  refine g_aload_0 hR dX8_twoRounds_0 (g_aload_0 hR dX8_twoRounds_1 (g_getR hR dX8_twoRounds_2 flX8_58 (by decide) rfl rfl (g_aload_0 hR dX8_twoRounds_5 (g_getR hR dX8_twoRounds_6 flX8_16 (by decide) rfl rfl (g_callV2V hR dX8_twoRounds_9 mlX8_223 (by decide) rfl rfl (C8_copyTo (a := 17) (b := 3) ⟨by decide, rfl, by decide⟩ ⟨by decide, rfl, by decide⟩ (by decide)) (by decide) (Nat.le_of_ble_eq_true rfl) (fun zu1 hzu1 => ?_))))))
  have hS1 := hS.fr (hzu1.2.1 3 (by decide) (by decide))
  have hA1 := hzu1.1.st hS
  have hL1 := hL.fr (hzu1.2.1 1 (by decide) (by decide))
  have hH1 := hH.fr (fun k _ => hzu1.2.2 k (by simp))
  refine g_aload_0 hR dX8_twoRounds_12 (g_callV0Z hR dX8_twoRounds_13 mlX8_233 (by decide) rfl rfl (C8_worstTwo hS1 hL1 hH1 ok hw h6h) (by decide) (Nat.le_of_ble_eq_true rfl) (fun zu2 hzu2 => ?_))
  obtain ⟨hS2, hG2⟩ := hzu2
  have hA2 := hA1.fr (hG2.1 17 (by decide) (by decide))
  have hF2 : FrM [3, 9, 17, 18] [17] σ zu2 := (hzu1.2.mono (by decide) (by decide)).tr (hG2.mono (by decide) (by decide))
  refine g_istore_1 hR dX8_twoRounds_16 rfl (g_iconst hR dX8_twoRounds_17 (g_istore_2 hR dX8_twoRounds_18 rfl ?_))
  have loop : ∀ (mm : Nat) (j : Nat) (u : f_Mem), mm = 6 * (Lm L).length - j → j ≤ 6 * (Lm L).length → StM u 3 0 M → StM u 17 0 M → FrM [3, 9, 17, 18] [17] σ u → ∀ x3 : Option Value, G 19 [some (.ref (f_ad E 0)), some (.int (iI (minN (fun w => oS L (Lsort L) (Lfirst L) (mS L (Lsort L) (Lfirst L) 1) (w :: M.1)) (oS L (Lsort L) (Lfirst L) (mS L (Lsort L) (Lfirst L) 1) M.1) j : Nat))), some (.int (iI j)), x3] [] u := by
    intro mm
    induction mm using Nat.strongRecOn with
    | ind mm ih =>
      intro j u hm hj hS3 hA3 hF3 x3
      have hb9 := minN_le (fun w => oS L (Lsort L) (Lfirst L) (mS L (Lsort L) (Lfirst L) 1) (w :: M.1)) (oS L (Lsort L) (Lfirst L) (mS L (Lsort L) (Lfirst L) 1) M.1) j
      have hb8 := oS_le ok (Lsort L) (Lfirst L) (mS_le ok (Lsort L) (Lfirst L) 1) M.1
      have hb7 := oS_le ok (Lsort L) (Lfirst L) (mS_le ok (Lsort L) (Lfirst L) 1) (j :: M.1)
      refine g_iload_2 hR dX8_twoRounds_19 (g_bipush hR dX8_twoRounds_20 (by decide) (g_aload_0 hR dX8_twoRounds_22 (g_getI hR _ dX8_twoRounds_23 flX8_75 (by decide) rfl rfl ((hF3.2 1 (by decide)).trans hH.1) (g_imul hR dX8_twoRounds_26 (g_icmp_ge hR 80 dX8_twoRounds_27 (by decide) (by omega) (by omega) (fun zc27 => ?_) (fun zc27 => ?_))))))
      · skip
        refine g_iload_1 hR dX8_twoRounds_80 ?_
        exact g_iret hR dX8_twoRounds_81 rfl (by rw [show j = 6 * (Lm L).length from by omega]; rfl) ⟨hS3, hF3⟩
      · skip
        refine g_iload_1 hR dX8_twoRounds_30 (g_if_le hR 80 dX8_twoRounds_31 (by decide) (by omega) (fun zc31 => ?_) (fun zc31 => ?_))
        · skip
          refine g_iload_1 hR dX8_twoRounds_80 ?_
          have hz9 := minN_mono (fun w => oS L (Lsort L) (Lfirst L) (mS L (Lsort L) (Lfirst L) 1) (w :: M.1)) (oS L (Lsort L) (Lfirst L) (mS L (Lsort L) (Lfirst L) 1) M.1) hj
          exact g_iret hR dX8_twoRounds_81 rfl (by show _ = ((minN (fun w => oS L (Lsort L) (Lfirst L) (mS L (Lsort L) (Lfirst L) 1) (w :: M.1)) (oS L (Lsort L) (Lfirst L) (mS L (Lsort L) (Lfirst L) 1) M.1) (6 * (Lm L).length) : Nat) : Int); omega) ⟨hS3, hF3⟩
        · skip
          refine g_aload_0 hR dX8_twoRounds_34 (g_iload_2 hR dX8_twoRounds_35 (g_bipush hR dX8_twoRounds_36 (by decide) (g_idiv hR dX8_twoRounds_38 (by omega) (by omega) (g_iload_2 hR dX8_twoRounds_39 (g_bipush hR dX8_twoRounds_40 (by decide) (g_irem hR dX8_twoRounds_42 (by omega) (by omega) ?_))))))
          rw [show ((j : Nat) : Int) / 6 = ((j / 6 : Nat) : Int) from rfl, show ((j : Nat) : Int) % 6 = ((j % 6 : Nat) : Int) from rfl]
          refine g_callV2V hR dX8_twoRounds_43 mlX8_176 (by decide) rfl rfl (C8_hear (k := j / 6) (d := j % 6) hS3) (by decide) (Nat.le_of_ble_eq_true rfl) (fun zu4 hzu4 => ?_)
          rw [Nat.div_add_mod] at hzu4
          have hF4 := hF3.tr (hzu4.2.mono (by decide) (by decide))
          have hA4 := hA3.fr (hzu4.2.1 17 (by decide) (by decide))
          have hL4 := hL.fr (hF4.1 1 (by decide) (by decide))
          have hH4 := hH.fr (fun k hk => hF4.2 k (by rcases hk with rfl | rfl | rfl <;> decide))
          have hw4 : WOK L (j :: M.1) := fun v hv => by
            rcases List.mem_cons.mp hv with q | q
            · rw [q]; omega
            · exact hw v q
          refine g_aload_0 hR dX8_twoRounds_46 (g_callV0Z hR dX8_twoRounds_47 mlX8_233 (by decide) rfl rfl ((show FZ E sM mX8_worstTwo 5 [.ref (f_ad E 0)] zu4 (oS L (Lsort L) (Lfirst L) (mS L (Lsort L) (Lfirst L) 1) (j :: M.1) : Nat) (fun u => StM u 3 0 (j :: M.1, M.2) ∧ FrM [3, 9, 18] [17] zu4 u) from C8_worstTwo (M := (j :: M.1, M.2)) hzu4.1 hL4 hH4 ok hw4 h6h)) (by decide) (Nat.le_of_ble_eq_true rfl) (fun zu5 hzu5 => ?_))
          have hF5 := hF4.tr (hzu5.2.mono (by decide) (by decide))
          have hA5 := hA4.fr (hzu5.2.1 17 (by decide) (by decide))
          refine g_istore_3 hR dX8_twoRounds_50 rfl (g_iload_3 hR dX8_twoRounds_51 (g_iload_1 hR dX8_twoRounds_52 (g_icmp_ge hR 60 dX8_twoRounds_53 (by decide) (by omega) (by omega) (fun zc53 => ?_) (fun zc53 => ?_))))
          · skip
            refine g_iload_1 hR dX8_twoRounds_60 (g_istore_1 hR dX8_twoRounds_61 rfl (g_aload_0 hR dX8_twoRounds_62 (g_aload_0 hR dX8_twoRounds_63 (g_getR hR dX8_twoRounds_64 flX8_16 (by decide) rfl rfl (g_aload_0 hR dX8_twoRounds_67 (g_getR hR dX8_twoRounds_68 flX8_58 (by decide) rfl rfl (g_callV2V hR dX8_twoRounds_71 mlX8_223 (by decide) rfl rfl (C8_copyTo (a := 3) (b := 17) ⟨by decide, rfl, by decide⟩ ⟨by decide, rfl, by decide⟩ (by decide)) (by decide) (Nat.le_of_ble_eq_true rfl) (fun zu6 hzu6 => ?_))))))))
            have hS6 := hzu6.1.st hA5
            have hA6 := hA5.fr (hzu6.2.1 17 (by decide) (by decide))
            have hF6 := hF5.tr (hzu6.2.mono (by decide) (by decide))
            refine g_iinc_2 hR dX8_twoRounds_74 rfl (g_goto hR 19 dX8_twoRounds_77 (by decide) ?_)
            have e9 : minN (fun w => oS L (Lsort L) (Lfirst L) (mS L (Lsort L) (Lfirst L) 1) (w :: M.1)) (oS L (Lsort L) (Lfirst L) (mS L (Lsort L) (Lfirst L) 1) M.1) (j + 1) = minN (fun w => oS L (Lsort L) (Lfirst L) (mS L (Lsort L) (Lfirst L) 1) (w :: M.1)) (oS L (Lsort L) (Lfirst L) (mS L (Lsort L) (Lfirst L) 1) M.1) j := by
              show min (minN (fun w => oS L (Lsort L) (Lfirst L) (mS L (Lsort L) (Lfirst L) 1) (w :: M.1)) (oS L (Lsort L) (Lfirst L) (mS L (Lsort L) (Lfirst L) 1) M.1) j) (oS L (Lsort L) (Lfirst L) (mS L (Lsort L) (Lfirst L) 1) (j :: M.1)) = _
              omega
            have h9 := ih (6 * (Lm L).length - (j + 1)) (by omega) (j + 1) zu6 rfl (by omega) hS6 hA6 hF6
            rw [e9] at h9
            exact h9 _
          · skip
            refine g_iload_3 hR dX8_twoRounds_56 (g_goto hR 61 dX8_twoRounds_57 (by decide) (g_istore_1 hR dX8_twoRounds_61 rfl (g_aload_0 hR dX8_twoRounds_62 (g_aload_0 hR dX8_twoRounds_63 (g_getR hR dX8_twoRounds_64 flX8_16 (by decide) rfl rfl (g_aload_0 hR dX8_twoRounds_67 (g_getR hR dX8_twoRounds_68 flX8_58 (by decide) rfl rfl (g_callV2V hR dX8_twoRounds_71 mlX8_223 (by decide) rfl rfl (C8_copyTo (a := 3) (b := 17) ⟨by decide, rfl, by decide⟩ ⟨by decide, rfl, by decide⟩ (by decide)) (by decide) (Nat.le_of_ble_eq_true rfl) (fun zu6 hzu6 => ?_)))))))))
            have hS6 := hzu6.1.st hA5
            have hA6 := hA5.fr (hzu6.2.1 17 (by decide) (by decide))
            have hF6 := hF5.tr (hzu6.2.mono (by decide) (by decide))
            refine g_iinc_2 hR dX8_twoRounds_74 rfl (g_goto hR 19 dX8_twoRounds_77 (by decide) ?_)
            have e9 : minN (fun w => oS L (Lsort L) (Lfirst L) (mS L (Lsort L) (Lfirst L) 1) (w :: M.1)) (oS L (Lsort L) (Lfirst L) (mS L (Lsort L) (Lfirst L) 1) M.1) (j + 1) = oS L (Lsort L) (Lfirst L) (mS L (Lsort L) (Lfirst L) 1) (j :: M.1) := by
              show min (minN (fun w => oS L (Lsort L) (Lfirst L) (mS L (Lsort L) (Lfirst L) 1) (w :: M.1)) (oS L (Lsort L) (Lfirst L) (mS L (Lsort L) (Lfirst L) 1) M.1) j) (oS L (Lsort L) (Lfirst L) (mS L (Lsort L) (Lfirst L) 1) (j :: M.1)) = _
              omega
            have h9 := ih (6 * (Lm L).length - (j + 1)) (by omega) (j + 1) zu6 rfl (by omega) hS6 hA6 hF6
            rw [e9] at h9
            exact h9 _
  exact loop (6 * (Lm L).length) 0 zu2 (by omega) (by omega) hS2 hA2 hF2 _
theorem M_byTurns {E : f_E} {σ : f_Mem} {A : AS} (h : InvM σ A) (ok : ASOK A) {n : Int} (hn : -2147483648 ≤ n ∧ n < 2147483648) : FZ E sM mX8_byTurns 12 [.ref (f_ad E 0), .int (iI n)] σ (sp_byTurns A n) (fun u => InvM u A) := by
  have hK1 := ok.K1
  have hK6 := ok.K6
  have hkk : AK A = (Lm (AL A)).length := rfl
  have hrl := ok.L.rl
  have hwl := ok.wl
  have hwo := ok.w
  have h6h := ok.M.2.2
  have hf6 := ok.L.f
  have hs4 := ok.L.s
  refine FZ.intro rfl (Nat.le_of_ble_eq_true rfl) (L0 := [some (.ref (f_ad E 0)), some (.int (iI n))]) rfl (fun G hR => ?_)
  refine g_iload_1 hR dX8_byTurns_0 (g_i2l hR dX8_byTurns_1 (by omega) (g_lconst hR 0 dX8_byTurns_2 (by decide) (g_ldc2 hR (2) dX8_byTurns_3 kcX8_236 (by decide) (g_callS3P hR dX8_byTurns_6 mlX8_78 (C8_in (by omega) (by omega) (by omega)) (by decide) (Nat.le_of_ble_eq_true rfl) (g_if_ne hR 14 dX8_byTurns_9 (by decide) (by split <;> omega) (fun zc9 => ?_) (fun zc9 => ?_))))))
  · skip
    refine g_iload_1 hR dX8_byTurns_14 (g_if_ne hR 22 dX8_byTurns_15 (by decide) (by omega) (fun zc15 => ?_) (fun zc15 => ?_))
    · skip
      refine g_iload_1 hR dX8_byTurns_22 (g_iconst hR dX8_byTurns_23 (g_icmp_ne hR 34 dX8_byTurns_24 (by decide) (by omega) (by omega) (fun zc24 => ?_) (fun zc24 => ?_)))
      · skip
        refine g_aload_0 hR dX8_byTurns_34 (g_callV0Z hR dX8_byTurns_35 mlX8_238 (by decide) rfl rfl (C8_twoRounds h.st h.ls h.hd ok.L hwo h6h) (by decide) (Nat.le_of_ble_eq_true rfl) (fun zu1 hzu1 => ?_))
        obtain rfl : n = 2 := by omega
        exact g_iret hR dX8_byTurns_38 rfl (by unfold sp_byTurns; rw [if_pos (by omega)]; rfl) (h.keep (hzu1.2.mono (by decide) (by decide)) hzu1.1)
      · skip
        refine g_aload_0 hR dX8_byTurns_27 (g_callV0Z hR dX8_byTurns_28 mlX8_230 (by decide) rfl rfl (C8_oneRound h.st h.ls h.hd ok.L hwo h6h) (by decide) (Nat.le_of_ble_eq_true rfl) (fun zu1 hzu1 => (g_goto hR 38 dX8_byTurns_31 (by decide) ?_)))
        obtain rfl : n = 1 := by omega
        exact g_iret hR dX8_byTurns_38 rfl (by unfold sp_byTurns; rw [if_pos (by omega)]; rfl) (h.keep (hzu1.2.mono (by decide) (by decide)) hzu1.1)
    · skip
      refine g_iconst hR dX8_byTurns_18 (g_goto hR 38 dX8_byTurns_19 (by decide) ?_)
      obtain rfl : n = 0 := by omega
      exact g_iret hR dX8_byTurns_38 rfl (by unfold sp_byTurns; rw [if_pos (by omega)]; rfl) h
  · skip
    refine g_iconst hR dX8_byTurns_12 ?_
    exact g_iret hR dX8_byTurns_13 rfl (by unfold sp_byTurns; rw [if_neg (by omega)]; skip) h
