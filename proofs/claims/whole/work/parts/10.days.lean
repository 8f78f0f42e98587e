theorem C_willDo {E : f_E} {σ : f_Mem} {n : Nat} {b : Option Nat} {s f : Nat} {r : List Nat} (h : Lrn σ n b s f r) {L : Les} (hL : Lsn σ 19 L) (ok : LesOK L) (hw : WOK L r) (hs : s < 4) (hf : f < 6) (hr : r.length < 900000) {k : Nat} (hk : k < (Lm L).length) : FZ E sC mX0_willDo 4 [.ref (f_ad E n), .int (iI k)] σ (does L s f k r : Nat) (fun u => u = σ) := by
  have hK := ok.k
  refine FZ.intro rfl (Nat.le_of_ble_eq_true rfl) (L0 := [some (.ref (f_ad E n)), some (.int (iI k))]) rfl (fun G hR => ?_)
  refine g_aload_0 hR dX0_willDo_0 (g_getI hR _ dX0_willDo_1 flX0_31 h.sh.lt h.sh.obj rfl h.sort ?_)
  rcases (show s = 0 ∨ s = 1 ∨ s = 2 ∨ s = 3 from by omega) with rfl | rfl | rfl | rfl
  · skip
    refine g_tblIn hR 36 dX0_willDo_4 (by omega) (by omega) (by omega) rfl (by decide) (g_aload_0 hR dX0_willDo_36 (g_getI hR _ dX0_willDo_37 flX0_41 h.sh.lt h.sh.obj rfl h.last ?_))
    exact g_iret hR dX0_willDo_40 rfl (by rw [does_0]) rfl
  · skip
    refine g_tblIn hR 41 dX0_willDo_4 (by omega) (by omega) (by omega) rfl (by decide) (g_aload_0 hR dX0_willDo_41 (g_getI hR _ dX0_willDo_42 flX0_44 h.sh.lt h.sh.obj rfl h.bef ?_))
    exact g_iret hR dX0_willDo_45 rfl (by rw [does_1]) rfl
  · skip
    refine g_tblIn hR 46 dX0_willDo_4 (by omega) (by omega) (by omega) rfl (by decide) (g_aload_0 hR dX0_willDo_46 (g_iload_1 hR dX0_willDo_47 (g_callV1P hR dX0_willDo_48 mlX0_65 h.sh.lt h.sh.obj rfl (C_likest h hL ok hw hf (by omega) hk) (by decide) (Nat.le_of_ble_eq_true rfl) ?_)))
    exact g_iret hR dX0_willDo_51 rfl rfl rfl
  · skip
    refine g_tblIn hR 52 dX0_willDo_4 (by omega) (by omega) (by omega) rfl (by decide) (g_aload_0 hR dX0_willDo_52 (g_aload_0 hR dX0_willDo_53 (g_getR hR dX0_willDo_54 flX0_14 h.sh.lt h.sh.obj rfl (g_iload_1 hR dX0_willDo_57 (g_callV1P hR dX0_willDo_58 mlX0_58 h.sh.latest.lt h.sh.latest.obj rfl (map6_get (latR r) (show k < 6 from by omega) ▸ Cn_at h.lat (i := k) (by omega)) (by decide) (Nat.le_of_ble_eq_true rfl) (g_callV1P hR dX0_willDo_61 mlX0_68 h.sh.lt h.sh.obj rfl (C_keeps h (a := latR r k) (latR_le r k) (by omega)) (by decide) (Nat.le_of_ble_eq_true rfl) (g_if_eq hR 78 dX0_willDo_64 (by decide) (by split <;> omega) (fun c64 => ?_) (fun c64 => ?_))))))))
    · skip
      refine g_aload_0 hR dX0_willDo_78 (g_getI hR _ dX0_willDo_79 flX0_35 h.sh.lt h.sh.obj rfl h.first ?_)
      exact g_iret hR dX0_willDo_82 rfl (by rw [does_3, if_neg (fun q => by rw [if_pos q] at c64; omega)]) rfl
    · skip
      refine g_aload_0 hR dX0_willDo_67 (g_getR hR dX0_willDo_68 flX0_20 h.sh.lt h.sh.obj rfl (g_iload_1 hR dX0_willDo_71 (g_callV1P hR dX0_willDo_72 mlX0_58 h.sh.doing.lt h.sh.doing.obj rfl (map6_get (doiR f r) (show k < 6 from by omega) ▸ Cn_at h.doi (i := k) (by omega)) (by decide) (Nat.le_of_ble_eq_true rfl) (g_goto hR 82 dX0_willDo_75 (by decide) ?_))))
      exact g_iret hR dX0_willDo_82 rfl (by rw [does_3, if_pos (Decidable.byContradiction (fun q => by rw [if_neg q] at c64; omega))]) rfl
theorem C_day {E : f_E} {σ : f_Mem} {n : Nat} {b : Option Nat} {s f : Nat} {r : List Nat} (h : Lrn σ n b s f r) {L : Les} (hL : Lsn σ 19 L) (ok : LesOK L) (hw : WOK L r) (hs : s < 4) (hf : f < 6) (hr : r.length < 900000) (hn : 32 ≤ n) {k : Nat} (hk : k < (Lm L).length) : FZ E sC mX0_day 5 [.ref (f_ad E n), .int (iI k)] σ (does L s f k r : Nat) (fun u => Lrn u n b s f (dayR L s f k r) ∧ Fr σ u n (n + 5)) := by
  have hK := ok.k
  have hd := does_lt L s hf k r
  have ho := oc_le L k (does L s f k r)
  refine FZ.intro rfl (Nat.le_of_ble_eq_true rfl) (L0 := [some (.ref (f_ad E n)), some (.int (iI k)), none]) rfl (fun G hR => ?_)
  refine g_aload_0 hR dX0_day_0 (g_iload_1 hR dX0_day_1 (g_callV1P hR dX0_day_2 mlX0_85 h.sh.lt h.sh.obj rfl (C_willDo h hL ok hw hs hf hr hk) (by decide) (Nat.le_of_ble_eq_true rfl) (g_istore_2 hR dX0_day_5 rfl (g_aload_0 hR dX0_day_6 (g_getR hR dX0_day_7 flX0_23 h.sh.lt h.sh.obj rfl (g_iload_1 hR dX0_day_10 (g_iload_2 hR dX0_day_11 (g_callV2P hR dX0_day_12 mlX0_88 sh_laid.lt sh_laid.obj rfl (C_outcome hL ok (by omega) hd) (by decide) (Nat.le_of_ble_eq_true rfl) (g_if_eq hR 34 dX0_day_15 (by decide) (by omega) (fun c15 => ?_) (fun c15 => ?_))))))))))
  · skip
    refine g_iload_2 hR dX0_day_34 ?_
    exact g_iret hR dX0_day_35 rfl rfl ⟨by unfold dayR; rw [if_pos (by omega)]; exact h, Fr.rf⟩
  · skip
    refine g_aload_0 hR dX0_day_18 (g_iload_1 hR dX0_day_19 (g_aload_0 hR dX0_day_20 (g_getR hR dX0_day_21 flX0_23 h.sh.lt h.sh.obj rfl (g_getR hR dX0_day_24 flX0_91 sh_laid.lt sh_laid.obj rfl (g_iload_1 hR dX0_day_27 (g_callV1P hR dX0_day_28 mlX0_58 sh_laid.right.lt sh_laid.right.obj rfl (Cn_at hL.r (by omega)) (by decide) (Nat.le_of_ble_eq_true rfl) (g_callV2V hR dX0_day_31 mlX0_62 h.sh.lt h.sh.obj rfl (C_hear h (by omega) (ok.r k)) (by decide) (Nat.le_of_ble_eq_true rfl) (fun u1 hu1 => (g_iload_2 hR dX0_day_34 ?_)))))))))
    exact g_iret hR dX0_day_35 rfl rfl ⟨by unfold dayR; rw [if_neg (by omega)]; exact hu1.1, hu1.2⟩
theorem C_lossOfRow {E : f_E} {σ : f_Mem} {n : Nat} {b : Option Nat} {s f : Nat} {r : List Nat} (h : Lrn σ n b s f r) {L : Les} (hL : Lsn σ 19 L) (ok : LesOK L) (hw : WOK L r) (hs : s < 4) (hf : f < 6) (hr : r.length < 800000) (hn : 32 ≤ n) : FZ E sC mX0_lossOfRow 6 [.ref (f_ad E n)] σ (runL L s f (Lrow L) r : Nat) (fun u => Lrn u n b s f (runR L s f (Lrow L) r) ∧ Fr σ u n (n + 5)) := by
  have hK := ok.k
  have hrl := ok.rl
  have hrk : ∀ j, j < (Lrow L).length → (Lrow L).getD j 0 < (Lm L).length := fun j hj => ok.rk hj
  have hrm : ∀ j, ∀ k ∈ (Lrow L).take j, k < (Lm L).length := fun j k hk => ok.2.2.1.2 k (List.mem_of_mem_take hk)
  refine FZ.intro rfl (Nat.le_of_ble_eq_true rfl) (L0 := [some (.ref (f_ad E n)), none, none, none]) rfl (fun G hR => ?_)
  refine g_iconst hR dX0_lossOfRow_0 (g_istore_1 hR dX0_lossOfRow_1 rfl (g_iconst hR dX0_lossOfRow_2 (g_istore_2 hR dX0_lossOfRow_3 rfl ?_)))
  have loop : ∀ (mm j : Nat) (u : f_Mem), mm = (Lrow L).length - j → j ≤ (Lrow L).length → Lrn u n b s f (runR L s f ((Lrow L).take j) r) → Fr σ u n (n + 5) → ∀ x3 : Option Value, G 4 [some (.ref (f_ad E n)), some (.int (iI (runL L s f ((Lrow L).take j) r : Nat))), some (.int (iI j)), x3] [] u := by
    intro mm
    induction mm using Nat.strongRecOn with
    | ind mm ih =>
      intro j u hm hj hN hF x3
      have hL := hL.fr hF (by omega)
      have hwj : WOK L (runR L s f ((Lrow L).take j) r) := runR_ok ok s f _ r (hrm j) hw
      have hlen := runR_len L s f ((Lrow L).take j) r
      have htl : ((Lrow L).take j).length ≤ 10 := by rw [List.length_take]; omega
      refine g_iload_2 hR dX0_lossOfRow_4 (g_aload_0 hR dX0_lossOfRow_5 (g_getR hR dX0_lossOfRow_6 flX0_23 hN.sh.lt hN.sh.obj rfl (g_getR hR dX0_lossOfRow_9 flX0_94 sh_laid.lt sh_laid.obj rfl (g_callV0P hR dX0_lossOfRow_12 mlX0_54 sh_laid.row.lt sh_laid.row.obj rfl (Cn_size hL.row) (by decide) (Nat.le_of_ble_eq_true rfl) (g_icmp_ge hR 52 dX0_lossOfRow_15 (by decide) (by omega) (by omega) (fun c15 => ?_) (fun c15 => ?_))))))
      · skip
        refine g_iload_1 hR dX0_lossOfRow_52 ?_
        have e : j = (Lrow L).length := by omega
        subst e
        rw [List.take_length] at hN
        exact g_iret hR dX0_lossOfRow_53 rfl (by rw [List.take_length]) ⟨hN, hF⟩
      · skip
        have hj9 : j < (Lrow L).length := by omega
        have hk9 := hrk j hj9
        refine g_aload_0 hR dX0_lossOfRow_18 (g_getR hR dX0_lossOfRow_19 flX0_23 hN.sh.lt hN.sh.obj rfl (g_getR hR dX0_lossOfRow_22 flX0_94 sh_laid.lt sh_laid.obj rfl (g_iload_2 hR dX0_lossOfRow_25 (g_callV1P hR dX0_lossOfRow_26 mlX0_58 sh_laid.row.lt sh_laid.row.obj rfl (Cn_at hL.row (i := j) (by omega)) (by decide) (Nat.le_of_ble_eq_true rfl) (g_istore_3 hR dX0_lossOfRow_29 rfl (g_iload_1 hR dX0_lossOfRow_30 (g_aload_0 hR dX0_lossOfRow_31 (g_getR hR dX0_lossOfRow_32 flX0_23 hN.sh.lt hN.sh.obj rfl (g_iload_3 hR dX0_lossOfRow_35 (g_aload_0 hR dX0_lossOfRow_36 (g_iload_3 hR dX0_lossOfRow_37 (g_callV1Z hR dX0_lossOfRow_38 mlX0_97 hN.sh.lt hN.sh.obj rfl (C_day hN hL ok hwj hs hf (by omega) hn hk9) (by decide) (Nat.le_of_ble_eq_true rfl) (fun u1 hu1 => ?_)))))))))))))
        have hL2 := hL.fr hu1.2 (by omega)
        refine g_callV2P hR dX0_lossOfRow_41 mlX0_100 sh_laid.lt sh_laid.obj rfl (C_lost hL2 ok (by omega) (does_lt L s hf _ _)) (by decide) (Nat.le_of_ble_eq_true rfl) (g_iadd hR dX0_lossOfRow_44 (g_istore_1 hR dX0_lossOfRow_45 rfl (g_iinc_2 hR dX0_lossOfRow_46 rfl (g_goto hR 4 dX0_lossOfRow_49 (by decide) ?_))))
        have hF2 := hF.tr hu1.2
        have e := runR_snoc L s f ((Lrow L).getD j 0) ((Lrow L).take j) r
        rw [← take_snoc hj9] at e
        have hN2 := hu1.1
        rw [← e] at hN2
        have e2 := runL_snoc L s f ((Lrow L).getD j 0) ((Lrow L).take j) r
        rw [← take_snoc hj9] at e2
        have h9 := ih ((Lrow L).length - (j + 1)) (by omega) (j + 1) u1 rfl (by omega) hN2 hF2
        rw [e2] at h9
        exact h9 _
  exact loop (Lrow L).length 0 σ (by omega) (by omega) h Fr.rf _
theorem C_firstGood {E : f_E} {σ : f_Mem} {n : Nat} {b : Option Nat} {s f : Nat} {r : List Nat} (h : Lrn σ n b s f r) {L : Les} (hL : Lsn σ 19 L) (ok : LesOK L) (hw : WOK L r) (hs : s < 4) (hf : f < 6) (hr : r.length < 800000) (hn : 32 ≤ n) : FZ E sC mX0_firstGoodOfRow 6 [.ref (f_ad E n)] σ (firstG L s f 0 (Lrow L) r) (fun u => (∃ r2, Lrn u n b s f r2) ∧ Fr σ u n (n + 5)) := by
  have hK := ok.k
  have hrl := ok.rl
  have hrk : ∀ j, j < (Lrow L).length → (Lrow L).getD j 0 < (Lm L).length := fun j hj => ok.rk hj
  have hrm : ∀ j, ∀ k ∈ (Lrow L).take j, k < (Lm L).length := fun j k hk => ok.2.2.1.2 k (List.mem_of_mem_take hk)
  refine FZ.intro rfl (Nat.le_of_ble_eq_true rfl) (L0 := [some (.ref (f_ad E n)), none, none]) rfl (fun G hR => ?_)
  refine g_iconst hR dX0_firstGoodOfRow_0 (g_istore_1 hR dX0_firstGoodOfRow_1 rfl ?_)
  have loop : ∀ (mm j : Nat) (u : f_Mem), mm = (Lrow L).length - j → j ≤ (Lrow L).length → Lrn u n b s f (runR L s f ((Lrow L).take j) r) → Fr σ u n (n + 5) → firstG L s f 0 (Lrow L) r = firstG L s f j ((Lrow L).drop j) (runR L s f ((Lrow L).take j) r) → ∀ x2 : Option Value, G 2 [some (.ref (f_ad E n)), some (.int (iI j)), x2] [] u := by
    intro mm
    induction mm using Nat.strongRecOn with
    | ind mm ih =>
      intro j u hm hj hN hF hG x2
      have hL := hL.fr hF (by omega)
      have hwj : WOK L (runR L s f ((Lrow L).take j) r) := runR_ok ok s f _ r (hrm j) hw
      have hlen := runR_len L s f ((Lrow L).take j) r
      have htl : ((Lrow L).take j).length ≤ 10 := by rw [List.length_take]; omega
      refine g_iload_1 hR dX0_firstGoodOfRow_2 (g_aload_0 hR dX0_firstGoodOfRow_3 (g_getR hR dX0_firstGoodOfRow_4 flX0_23 hN.sh.lt hN.sh.obj rfl (g_getR hR dX0_firstGoodOfRow_7 flX0_94 sh_laid.lt sh_laid.obj rfl (g_callV0P hR dX0_firstGoodOfRow_10 mlX0_54 sh_laid.row.lt sh_laid.row.obj rfl (Cn_size hL.row) (by decide) (Nat.le_of_ble_eq_true rfl) (g_icmp_ge hR 52 dX0_firstGoodOfRow_13 (by decide) (by omega) (by omega) (fun c13 => ?_) (fun c13 => ?_))))))
      · skip
        refine g_bipush hR dX0_firstGoodOfRow_52 (by decide) ?_
        have e : j = (Lrow L).length := by omega
        subst e
        rw [List.drop_length] at hG
        exact g_iret hR dX0_firstGoodOfRow_54 rfl (by rw [hG]; rfl) ⟨⟨_, hN⟩, hF⟩
      · skip
        have hj9 : j < (Lrow L).length := by omega
        have hk9 := hrk j hj9
        rw [drop_cons hj9] at hG
        simp only [firstG] at hG
        have ho := oc_le L ((Lrow L).getD j 0) (does L s f ((Lrow L).getD j 0) (runR L s f ((Lrow L).take j) r))
        refine g_aload_0 hR dX0_firstGoodOfRow_16 (g_getR hR dX0_firstGoodOfRow_17 flX0_23 hN.sh.lt hN.sh.obj rfl (g_getR hR dX0_firstGoodOfRow_20 flX0_94 sh_laid.lt sh_laid.obj rfl (g_iload_1 hR dX0_firstGoodOfRow_23 (g_callV1P hR dX0_firstGoodOfRow_24 mlX0_58 sh_laid.row.lt sh_laid.row.obj rfl (Cn_at hL.row (i := j) (by omega)) (by decide) (Nat.le_of_ble_eq_true rfl) (g_istore_2 hR dX0_firstGoodOfRow_27 rfl (g_aload_0 hR dX0_firstGoodOfRow_28 (g_getR hR dX0_firstGoodOfRow_29 flX0_23 hN.sh.lt hN.sh.obj rfl (g_iload_2 hR dX0_firstGoodOfRow_32 (g_aload_0 hR dX0_firstGoodOfRow_33 (g_iload_2 hR dX0_firstGoodOfRow_34 (g_callV1Z hR dX0_firstGoodOfRow_35 mlX0_97 hN.sh.lt hN.sh.obj rfl (C_day hN hL ok hwj hs hf (by omega) hn hk9) (by decide) (Nat.le_of_ble_eq_true rfl) (fun u1 hu1 => ?_))))))))))))
        have hL2 := hL.fr hu1.2 (by omega)
        refine g_callV2P hR dX0_firstGoodOfRow_38 mlX0_88 sh_laid.lt sh_laid.obj rfl (C_outcome hL2 ok (by omega) (does_lt L s hf _ _)) (by decide) (Nat.le_of_ble_eq_true rfl) (g_if_ne hR 46 dX0_firstGoodOfRow_41 (by decide) (by omega) (fun c41 => ?_) (fun c41 => ?_))
        · skip
          refine g_iinc_1 hR dX0_firstGoodOfRow_46 rfl (g_goto hR 2 dX0_firstGoodOfRow_49 (by decide) ?_)
          have hF2 := hF.tr hu1.2
          have e := runR_snoc L s f ((Lrow L).getD j 0) ((Lrow L).take j) r
          rw [← take_snoc hj9] at e
          have hN2 := hu1.1
          rw [← e] at hN2
          rw [if_neg (by omega), ← e] at hG
          exact ih ((Lrow L).length - (j + 1)) (by omega) (j + 1) u1 rfl (by omega) hN2 hF2 hG _
        · skip
          refine g_iload_1 hR dX0_firstGoodOfRow_44 ?_
          rw [if_pos (by omega)] at hG
          exact g_iret hR dX0_firstGoodOfRow_45 rfl hG.symm ⟨⟨_, hu1.1⟩, hF.tr hu1.2⟩
  exact loop (Lrow L).length 0 σ (by omega) (by omega) h Fr.rf rfl _
theorem C_doings {E : f_E} {σ : f_Mem} {n : Nat} {b : Option Nat} {s f : Nat} {r : List Nat} (h : Lrn σ n b s f r) {L : Les} (hL : Lsn σ 19 L) (ok : LesOK L) (hw : WOK L r) (hs : s < 4) (hf : f < 6) (hr : r.length < 800000) (hn : 32 ≤ n) : FZ E sC mX0_doingsOfRow 6 [.ref (f_ad E n)] σ (enc6 (runD L s f (Lrow L) r) : Nat) (fun u => Lrn u n b s f (runR L s f (Lrow L) r) ∧ Fr σ u n (n + 5)) := by
  have hK := ok.k
  have hrl := ok.rl
  have hrk : ∀ j, j < (Lrow L).length → (Lrow L).getD j 0 < (Lm L).length := fun j hj => ok.rk hj
  have hrm : ∀ j, ∀ k ∈ (Lrow L).take j, k < (Lm L).length := fun j k hk => ok.2.2.1.2 k (List.mem_of_mem_take hk)
  refine FZ.intro rfl (Nat.le_of_ble_eq_true rfl) (L0 := [some (.ref (f_ad E n)), none, none]) rfl (fun G hR => ?_)
  refine g_iconst hR dX0_doingsOfRow_0 (g_istore_1 hR dX0_doingsOfRow_1 rfl (g_iconst hR dX0_doingsOfRow_2 (g_istore_2 hR dX0_doingsOfRow_3 rfl ?_)))
  have loop : ∀ (mm j : Nat) (u : f_Mem), mm = (Lrow L).length - j → j ≤ (Lrow L).length → Lrn u n b s f (runR L s f ((Lrow L).take j) r) → Fr σ u n (n + 5) → G 4 [some (.ref (f_ad E n)), some (.int (iI (enc6 (runD L s f ((Lrow L).take j) r) : Nat))), some (.int (iI j))] [] u := by
    intro mm
    induction mm using Nat.strongRecOn with
    | ind mm ih =>
      intro j u hm hj hN hF
      have hL := hL.fr hF (by omega)
      have hwj : WOK L (runR L s f ((Lrow L).take j) r) := runR_ok ok s f _ r (hrm j) hw
      have hlen := runR_len L s f ((Lrow L).take j) r
      have htl : ((Lrow L).take j).length ≤ 10 := by rw [List.length_take]; omega
      refine g_iload_2 hR dX0_doingsOfRow_4 (g_aload_0 hR dX0_doingsOfRow_5 (g_getR hR dX0_doingsOfRow_6 flX0_23 hN.sh.lt hN.sh.obj rfl (g_getR hR dX0_doingsOfRow_9 flX0_94 sh_laid.lt sh_laid.obj rfl (g_callV0P hR dX0_doingsOfRow_12 mlX0_54 sh_laid.row.lt sh_laid.row.obj rfl (Cn_size hL.row) (by decide) (Nat.le_of_ble_eq_true rfl) (g_icmp_ge hR 45 dX0_doingsOfRow_15 (by decide) (by omega) (by omega) (fun c15 => ?_) (fun c15 => ?_))))))
      · skip
        refine g_iload_1 hR dX0_doingsOfRow_45 ?_
        have e : j = (Lrow L).length := by omega
        subst e
        rw [List.take_length] at hN
        exact g_iret hR dX0_doingsOfRow_46 rfl (by rw [List.take_length]) ⟨hN, hF⟩
      · skip
        have hj9 : j < (Lrow L).length := by omega
        have hk9 := hrk j hj9
        refine g_bipush hR dX0_doingsOfRow_18 (by decide) (g_iload_1 hR dX0_doingsOfRow_20 (g_imul hR dX0_doingsOfRow_21 (g_aload_0 hR dX0_doingsOfRow_22 (g_aload_0 hR dX0_doingsOfRow_23 (g_getR hR dX0_doingsOfRow_24 flX0_23 hN.sh.lt hN.sh.obj rfl (g_getR hR dX0_doingsOfRow_27 flX0_94 sh_laid.lt sh_laid.obj rfl (g_iload_2 hR dX0_doingsOfRow_30 (g_callV1P hR dX0_doingsOfRow_31 mlX0_58 sh_laid.row.lt sh_laid.row.obj rfl (Cn_at hL.row (i := j) (by omega)) (by decide) (Nat.le_of_ble_eq_true rfl) (g_callV1Z hR dX0_doingsOfRow_34 mlX0_97 hN.sh.lt hN.sh.obj rfl (C_day hN hL ok hwj hs hf (by omega) hn hk9) (by decide) (Nat.le_of_ble_eq_true rfl) (fun u1 hu1 => (g_iadd hR dX0_doingsOfRow_37 (g_istore_1 hR dX0_doingsOfRow_38 rfl (g_iinc_2 hR dX0_doingsOfRow_39 rfl (g_goto hR 4 dX0_doingsOfRow_42 (by decide) ?_))))))))))))))
        have hF2 := hF.tr hu1.2
        have e := runR_snoc L s f ((Lrow L).getD j 0) ((Lrow L).take j) r
        rw [← take_snoc hj9] at e
        have hN2 := hu1.1
        rw [← e] at hN2
        have e2 := runD_snoc L s f ((Lrow L).getD j 0) ((Lrow L).take j) r
        rw [← take_snoc hj9] at e2
        have h9 := ih ((Lrow L).length - (j + 1)) (by omega) (j + 1) u1 rfl (by omega) hN2 hF2
        rw [e2] at h9
        unfold enc6 at h9 ⊢
        rw [List.foldl_append] at h9
        exact h9
  exact loop (Lrow L).length 0 σ (by omega) (by omega) h Fr.rf
theorem C_lrnCopy {E : f_E} {σ : f_Mem} {n : Nat} {b : Option Nat} {m : Nat} {b2 : Option Nat} {s f : Nat} {r : List Nat} (h : LrX σ n b) (h2 : Lrn σ m b2 s f r) (hd : m + 5 ≤ n ∨ n + 5 ≤ m) : FV E sC mX0_copyFrom 2 [.ref (f_ad E n), .ref (f_ad E m)] σ (fun u => Lrn u n b s f r ∧ Fr σ u n (n + 5)) := by
  have hmn : m ≠ n := by omega
  refine FV.intro rfl (Nat.le_of_ble_eq_true rfl) (L0 := [some (.ref (f_ad E n)), some (.ref (f_ad E m))]) rfl (fun G hR => ?_)
  refine g_aload_0 hR dX0_copyFrom_0 (g_aload_1 hR dX0_copyFrom_1 (g_getI hR _ dX0_copyFrom_2 flX0_31 h2.sh.lt h2.sh.obj rfl h2.sort (g_put hR dX0_copyFrom_5 fpX0_31 h.sh.lt h.sh.obj rfl (g_aload_0 hR dX0_copyFrom_8 (g_aload_1 hR dX0_copyFrom_9 (g_getI hR _ dX0_copyFrom_10 flX0_35 h2.sh.lt h2.sh.obj rfl (by simp only [m_set_n hmn]; exact h2.first) (g_put hR dX0_copyFrom_13 fpX0_35 h.sh.lt h.sh.obj rfl (g_aload_0 hR dX0_copyFrom_16 (g_aload_1 hR dX0_copyFrom_17 (g_getI hR _ dX0_copyFrom_18 flX0_38 h2.sh.lt h2.sh.obj rfl (by simp only [m_set_n hmn]; exact h2.heard) (g_put hR dX0_copyFrom_21 fpX0_38 h.sh.lt h.sh.obj rfl (g_aload_0 hR dX0_copyFrom_24 (g_aload_1 hR dX0_copyFrom_25 (g_getI hR _ dX0_copyFrom_26 flX0_41 h2.sh.lt h2.sh.obj rfl (by simp only [m_set_n hmn]; exact h2.last) (g_put hR dX0_copyFrom_29 fpX0_41 h.sh.lt h.sh.obj rfl (g_aload_0 hR dX0_copyFrom_32 (g_aload_1 hR dX0_copyFrom_33 (g_getI hR _ dX0_copyFrom_34 flX0_44 h2.sh.lt h2.sh.obj rfl (by simp only [m_set_n hmn]; exact h2.bef) (g_put hR dX0_copyFrom_37 fpX0_44 h.sh.lt h.sh.obj rfl ?_)))))))))))))))))))
  generalize hσ5 : (m_set (m_set (m_set (m_set (m_set σ n 4 (iI s)) n 5 (iI f)) n 6 (iI r.length)) n 7 (iI (lastD f r))) n 8 (iI (befD f r))) = σ5
  have f4 : σ5 n 4 = iI s := by rw [← hσ5]; simp [m_set, m_row, upd]
  have f5 : σ5 n 5 = iI f := by rw [← hσ5]; simp [m_set, m_row, upd]
  have f6 : σ5 n 6 = iI r.length := by rw [← hσ5]; simp [m_set, m_row, upd]
  have f7 : σ5 n 7 = iI (lastD f r) := by rw [← hσ5]; simp [m_set, m_row, upd]
  have f8 : σ5 n 8 = iI (befD f r) := by rw [← hσ5]; simp [m_set, m_row, upd]
  have hF : Fr σ σ5 n (n + 1) := by rw [← hσ5]; exact ((((Fr.set (by omega)).tr (Fr.set (by omega))).tr (Fr.set (by omega))).tr (Fr.set (by omega))).tr (Fr.set (by omega))
  obtain ⟨hsh, ⟨l1, h1⟩, ⟨l3, h3⟩⟩ := h
  have h1 := h1.fr hF (by omega)
  have h3 := h3.fr hF (by omega)
  have g2 := h2.fr hF (by omega)
  refine g_aload_0 hR dX0_copyFrom_40 (g_getR hR dX0_copyFrom_41 flX0_14 hsh.lt hsh.obj rfl (g_aload_1 hR dX0_copyFrom_44 (g_getR hR dX0_copyFrom_45 flX0_14 g2.sh.lt g2.sh.obj rfl (g_callV1V hR dX0_copyFrom_48 mlX0_107 hsh.latest.lt hsh.latest.obj rfl (Cn_copyFrom h1 g2.lat (by omega)) (by decide) (Nat.le_of_ble_eq_true rfl) (fun u1 hu1 => ?_)))))
  have h3 := h3.fr hu1.2 (by omega)
  have g3 := g2.fr hu1.2 (by omega)
  refine g_aload_0 hR dX0_copyFrom_51 (g_getR hR dX0_copyFrom_52 flX0_20 hsh.lt hsh.obj rfl (g_aload_1 hR dX0_copyFrom_55 (g_getR hR dX0_copyFrom_56 flX0_20 g2.sh.lt g2.sh.obj rfl (g_callV1V hR dX0_copyFrom_59 mlX0_107 hsh.doing.lt hsh.doing.obj rfl (Cn_copyFrom h3 g3.doi (by omega)) (by decide) (Nat.le_of_ble_eq_true rfl) (fun u2 hu2 => ?_)))))
  have hn1 := hu1.2 n (by omega)
  have hn2 := hu2.2 n (by omega)
  have k1 := hu1.1.fr hu2.2 (by omega)
  exact g_vret hR dX0_copyFrom_62 rfl ⟨⟨hsh, by rw [hn2, hn1]; exact f4, by rw [hn2, hn1]; exact f5, by rw [hn2, hn1]; exact f6, by rw [hn2, hn1]; exact f7, by rw [hn2, hn1]; exact f8, k1, hu2.1⟩, (hF.mono (by omega) (by omega)).tr ((hu1.2.mono (by omega) (by omega)).tr (hu2.2.mono (by omega) (by omega)))⟩
theorem C_stepDown {E : f_E} {σ : f_Mem} {n : Nat} {q : Nat} {b2 : Option Nat} {s f : Nat} {r : List Nat} (h : Lrn σ n (some q) s f r) (h2 : LrX σ q b2) (hd : n + 5 ≤ q ∨ q + 5 ≤ n) : FR E sC mX0_stepDown 3 [.ref (f_ad E n)] σ (some q) (fun u => Lrn u q b2 s f r ∧ Fr σ u q (q + 5)) := by
  refine FR.intro rfl (Nat.le_of_ble_eq_true rfl) (L0 := [some (.ref (f_ad E n))]) rfl (fun G hR => ?_)
  refine g_aload_0 hR dX0_stepDown_0 (g_getR hR dX0_stepDown_1 flX0_27 h.sh.lt h.sh.obj rfl (g_ifnull hR dX0_stepDown_4 (g_aload_0 hR dX0_stepDown_7 (g_getR hR dX0_stepDown_8 flX0_27 h.sh.lt h.sh.obj rfl (g_aload_0 hR dX0_stepDown_11 (g_callV1V hR dX0_stepDown_12 mlX0_103 h2.sh.lt h2.sh.obj rfl (C_lrnCopy h2 h hd) (by decide) (Nat.le_of_ble_eq_true rfl) (fun u1 hu1 => (g_aload_0 hR dX0_stepDown_15 (g_getR hR dX0_stepDown_16 flX0_27 h.sh.lt h.sh.obj rfl ?_)))))))))
  exact g_aret hR dX0_stepDown_19 rfl rfl hu1
theorem C_stepNone {E : f_E} {σ : f_Mem} {n : Nat}  {s f : Nat} {r : List Nat} (h : Lrn σ n none s f r) : FR E sC mX0_stepDown 3 [.ref (f_ad E n)] σ none (fun u => u = σ) := by
  refine FR.intro rfl (Nat.le_of_ble_eq_true rfl) (L0 := [some (.ref (f_ad E n))]) rfl (fun G hR => ?_)
  refine g_aload_0 hR dX0_stepDown_0 (g_getN hR dX0_stepDown_1 flX0_27 h.sh.lt h.sh.obj rfl (g_ifnullN hR 15 dX0_stepDown_4 (by decide) (g_aload_0 hR dX0_stepDown_15 (g_getN hR dX0_stepDown_16 flX0_27 h.sh.lt h.sh.obj rfl ?_))))
  exact g_aretN hR dX0_stepDown_19 rfl rfl
