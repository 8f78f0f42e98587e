
theorem Lsn.setS {σ : f_Mem} {n v : Nat} {L : Les} (h : Lsn σ n L) : Lsn (m_set σ n 6 (iI v)) n (Lm L, Lr L, Lp L, Lw L, Lc L, Lrow L, v, Lfirst L) := by
  have F : Fr σ (m_set σ n 6 (iI v)) n (n + 1) := Fr.one
  exact ⟨h.sh, h.m.fr F (by omega), h.r.fr F (by omega), h.p.fr F (by omega), h.w.fr F (by omega), h.c.fr F (by omega), h.row.fr F (by omega), m_set_at, by rw [m_set_j (by omega)]; exact h.first⟩
theorem Lsn.setF {σ : f_Mem} {n v : Nat} {L : Les} (h : Lsn σ n L) : Lsn (m_set σ n 7 (iI v)) n (Lm L, Lr L, Lp L, Lw L, Lc L, Lrow L, Lsort L, v) := by
  have F : Fr σ (m_set σ n 7 (iI v)) n (n + 1) := Fr.one
  exact ⟨h.sh, h.m.fr F (by omega), h.r.fr F (by omega), h.p.fr F (by omega), h.w.fr F (by omega), h.c.fr F (by omega), h.row.fr F (by omega), by rw [m_set_j (by omega)]; exact h.sort, m_set_at⟩
def TkP (σ u : f_Mem) (o : Option Les) : Prop := (∃ L2, Lsn u 3 L2 ∧ ∀ L3, o = some L3 → L2 = L3) ∧ Fr σ u 3 16
theorem TkP.of {σ u : f_Mem} {o : Option Les} {L : Les} (hL : Lsn σ 3 L) (h : TkR σ u o) : TkP σ u o := by
  cases o with
  | none =>
    have h : u = σ := h
    subst h
    exact ⟨⟨L, hL, fun L3 h => by cases h⟩, Fr.rf⟩
  | some L2 => exact ⟨⟨L2, h.1, fun L3 h => by cases h; rfl⟩, h.2⟩
theorem oB_01 {α : Type} (o : Option α) : oB o = 0 ∨ oB o = 1 := by cases o <;> simp [oB]

theorem Cr_takeItem {E : f_E} {σ : f_Mem} {l : List Nat} {L : Les} (hl : Num σ 17 5 l) (hL : Lsn σ 3 L) (ok : LesOK L) (h99 : ∀ i, l.getD i 0 ≤ 99) {c : Nat} (hc : c < 1000) {o : Option Les} (ho : takeIt c l L = o) : FZ E sC mX5_takeItem 3 [.ref (f_ad E 16), .int (iI c)] σ (oB o) (fun u => TkP σ u o) := by
  have b0 := h99 0
  refine FZ.intro rfl (Nat.le_of_ble_eq_true rfl) (L0 := [some (.ref (f_ad E 16)), some (.int (iI c)), none]) rfl (fun G hR => ?_)
  refine g_aload_0 hR dX5_takeItem_0 (g_getR hR dX5_takeItem_1 flX5_14 (by decide) rfl rfl (g_iconst hR dX5_takeItem_4 (g_callV1P hR dX5_takeItem_5 mlX5_40 sh_numbers.lt sh_numbers.obj rfl (Cn_at hl (i := 0) (by omega)) (by decide) (Nat.le_of_ble_eq_true rfl) (g_istore_2 hR dX5_takeItem_8 rfl ?_))))
  rcases (show c = 107 ∨ c = 108 ∨ c = 102 ∨ c = 101 ∨ c = 103 ∨ c = 104 ∨ c = 105 ∨ c = 106 ∨ (c < 101 ∨ 108 < c) from by omega) with rfl | rfl | rfl | rfl | rfl | rfl | rfl | rfl | hc2
  · skip
    refine g_iload_1 hR dX5_takeItem_9 (g_tblIn hR 56 dX5_takeItem_10 (by omega) (by omega) (by omega) rfl (by decide) (g_aload_0 hR dX5_takeItem_56 (g_callV0Z hR dX5_takeItem_57 mlX5_60 (by decide) rfl rfl (Cr_takeKind hl hL ok h99 (o := o) ho) (by decide) (Nat.le_of_ble_eq_true rfl) (fun u1 hu1 => ?_))))
    exact g_zret hR dX5_takeItem_60 rfl (oB_01 o) rfl (TkP.of hL hu1)
  · skip
    refine g_iload_1 hR dX5_takeItem_9 (g_tblIn hR 61 dX5_takeItem_10 (by omega) (by omega) (by omega) rfl (by decide) (g_aload_0 hR dX5_takeItem_61 (g_getR hR dX5_takeItem_62 flX5_23 (by decide) rfl rfl (g_iload_2 hR dX5_takeItem_65 (g_put hR dX5_takeItem_66 fpX5_64 sh_told.lt sh_told.obj rfl (g_iload_2 hR dX5_takeItem_69 (g_callS1P hR dX5_takeItem_70 mlX5_68 (C_isSort (by omega)) (by decide) (Nat.le_of_ble_eq_true rfl) ?_)))))))
    have ho2 : (if l.getD 0 0 ≤ 3 then some (Lm L, Lr L, Lp L, Lw L, Lc L, Lrow L, l.getD 0 0, Lfirst L) else none) = o := ho
    have hz : (if 0 ≤ ((l.getD 0 0 : Nat) : Int) ∧ ((l.getD 0 0 : Nat) : Int) ≤ 3 then (1 : Int) else 0) = oB o := by
      by_cases q : l.getD 0 0 ≤ 3
      · rw [if_pos q] at ho2; rw [if_pos (by omega), ← ho2]; rfl
      · rw [if_neg q] at ho2; rw [if_neg (by omega), ← ho2]; rfl
    exact g_zret hR dX5_takeItem_73 rfl (by split <;> simp) hz ⟨⟨_, hL.setS, fun L3 h3 => by rw [← ho2] at h3; split at h3 <;> cases h3; rfl⟩, Fr.set (by omega)⟩
  · skip
    refine g_iload_1 hR dX5_takeItem_9 (g_tblIn hR 74 dX5_takeItem_10 (by omega) (by omega) (by omega) rfl (by decide) (g_aload_0 hR dX5_takeItem_74 (g_getR hR dX5_takeItem_75 flX5_23 (by decide) rfl rfl (g_iload_2 hR dX5_takeItem_78 (g_put hR dX5_takeItem_79 fpX5_71 sh_told.lt sh_told.obj rfl (g_iload_2 hR dX5_takeItem_82 (g_callS1P hR dX5_takeItem_83 mlX5_74 (C_isDoing (by omega)) (by decide) (Nat.le_of_ble_eq_true rfl) ?_)))))))
    have ho2 : (if l.getD 0 0 ≤ 5 then some (Lm L, Lr L, Lp L, Lw L, Lc L, Lrow L, Lsort L, l.getD 0 0) else none) = o := ho
    have hz : (if 0 ≤ ((l.getD 0 0 : Nat) : Int) ∧ ((l.getD 0 0 : Nat) : Int) ≤ 5 then (1 : Int) else 0) = oB o := by
      by_cases q : l.getD 0 0 ≤ 5
      · rw [if_pos q] at ho2; rw [if_pos (by omega), ← ho2]; rfl
      · rw [if_neg q] at ho2; rw [if_neg (by omega), ← ho2]; rfl
    exact g_zret hR dX5_takeItem_86 rfl (by split <;> simp) hz ⟨⟨_, hL.setF, fun L3 h3 => by rw [← ho2] at h3; split at h3 <;> cases h3; rfl⟩, Fr.set (by omega)⟩
  · skip
    refine g_iload_1 hR dX5_takeItem_9 (g_tblIn hR 87 dX5_takeItem_10 (by omega) (by omega) (by omega) rfl (by decide) (g_aload_0 hR dX5_takeItem_87 (g_iload_2 hR dX5_takeItem_88 (g_callV1Z hR dX5_takeItem_89 mlX5_77 (by decide) rfl rfl (Cr_takeErrand hL (v := l.getD 0 0) b0 (o := o) ho) (by decide) (Nat.le_of_ble_eq_true rfl) (fun u1 hu1 => ?_)))))
    exact g_zret hR dX5_takeItem_92 rfl (oB_01 o) rfl (TkP.of hL hu1)
  · skip
    have ho2 : none = o := ho
    subst ho2
    refine g_iload_1 hR dX5_takeItem_9 (g_tblIn hR 93 dX5_takeItem_10 (by omega) (by omega) (by omega) rfl (by decide) (g_iconst hR dX5_takeItem_93 ?_))
    exact g_zret hR dX5_takeItem_94 rfl (Or.inl rfl) rfl ⟨⟨L, hL, fun L3 h => by cases h⟩, Fr.rf⟩
  · skip
    have ho2 : none = o := ho
    subst ho2
    refine g_iload_1 hR dX5_takeItem_9 (g_tblIn hR 93 dX5_takeItem_10 (by omega) (by omega) (by omega) rfl (by decide) (g_iconst hR dX5_takeItem_93 ?_))
    exact g_zret hR dX5_takeItem_94 rfl (Or.inl rfl) rfl ⟨⟨L, hL, fun L3 h => by cases h⟩, Fr.rf⟩
  · skip
    have ho2 : none = o := ho
    subst ho2
    refine g_iload_1 hR dX5_takeItem_9 (g_tblIn hR 93 dX5_takeItem_10 (by omega) (by omega) (by omega) rfl (by decide) (g_iconst hR dX5_takeItem_93 ?_))
    exact g_zret hR dX5_takeItem_94 rfl (Or.inl rfl) rfl ⟨⟨L, hL, fun L3 h => by cases h⟩, Fr.rf⟩
  · skip
    have ho2 : none = o := ho
    subst ho2
    refine g_iload_1 hR dX5_takeItem_9 (g_tblIn hR 93 dX5_takeItem_10 (by omega) (by omega) (by omega) rfl (by decide) (g_iconst hR dX5_takeItem_93 ?_))
    exact g_zret hR dX5_takeItem_94 rfl (Or.inl rfl) rfl ⟨⟨L, hL, fun L3 h => by cases h⟩, Fr.rf⟩
  · have ho2 : none = o := by rw [← ho]; unfold takeIt; rw [if_neg (by omega), if_neg (by omega), if_neg (by omega), if_neg (by omega)]
    subst ho2
    refine g_iload_1 hR dX5_takeItem_9 (g_tblOut hR 93 dX5_takeItem_10 (by omega) (by omega) (by decide) (g_iconst hR dX5_takeItem_93 ?_))
    exact g_zret hR dX5_takeItem_94 rfl (Or.inl rfl) rfl ⟨⟨L, hL, fun L3 h => by cases h⟩, Fr.rf⟩

def RdP (σ u : f_Mem) (o : Option (Nat × Les)) : Prop := (∃ L2, Lsn u 3 L2 ∧ ∀ q, o = some q → L2 = q.2) ∧ (∃ l, Num u 17 5 l) ∧ Fr σ u 3 19
theorem getD_snoc_le {l : List Nat} {v b : Nat} (h : ∀ i, l.getD i 0 ≤ b) (hv : v ≤ b) : ∀ i, (l ++ [v]).getD i 0 ≤ b := by
  intro i
  rcases Nat.lt_trichotomy i l.length with q | q | q
  · have := h i; simpa [List.getD, List.getElem?_append_left q] using this
  · subst q; simpa [List.getD] using hv
  · rw [getD_out (by simp; omega)]; omega

theorem Cr_readItem {E : f_E} {σ : f_Mem} {t : List Nat} {L : Les} (ht : Num σ 1 200 t) (hx : Tx t) (hN : ∃ l, Num σ 17 5 l) (hL : Lsn σ 3 L) (ok : LesOK L) {p : Nat} (hp : p < 200) {o : Option (Nat × Les)} (ho : rdItem t p L = o) : FZ E sC mX5_readItem 4 [.ref (f_ad E 16), .int (iI p)] σ (oI (o.map (fun q => q.1))) (fun u => RdP σ u o) := by
  have hx0 := hx p
  refine FZ.intro rfl (Nat.le_of_ble_eq_true rfl) (L0 := [some (.ref (f_ad E 16)), some (.int (iI p)), none, none, none, none]) rfl (fun G hR => ?_)
  obtain ⟨l0, hl0⟩ := hN
  refine g_aload_0 hR dX5_readItem_0 (g_getR hR dX5_readItem_1 flX5_20 (by decide) rfl rfl (g_iload_1 hR dX5_readItem_4 (g_callV1P hR dX5_readItem_5 mlX5_40 sh_text.lt sh_text.obj rfl (Cn_at ht (i := p) (by omega)) (by decide) (Nat.le_of_ble_eq_true rfl) (g_istore_2 hR dX5_readItem_8 rfl (g_iload_2 hR dX5_readItem_9 (g_callS1P hR dX5_readItem_10 mlX5_43 (Cr_nb (by omega)) (by decide) (Nat.le_of_ble_eq_true rfl) (g_istore_3 hR dX5_readItem_13 rfl (g_iload_1 hR dX5_readItem_14 (g_iconst hR dX5_readItem_15 (g_iadd hR dX5_readItem_16 (g_istore_4 hR dX5_readItem_17 rfl (g_aload_0 hR dX5_readItem_19 (g_getR hR dX5_readItem_20 flX5_14 (by decide) rfl rfl (g_callV0V hR dX5_readItem_23 mlX5_46 sh_numbers.lt sh_numbers.obj rfl (Cn_clear hl0) (by decide) (Nat.le_of_ble_eq_true rfl) (fun u1 hu1 => (g_iconst hR dX5_readItem_26 (g_istore_5 hR dX5_readItem_27 rfl ?_)))))))))))))))))
  have hnb : nbOf (t.getD p 0) ≤ 5 := by unfold nbOf; (repeat' split) <;> omega
  have loop : ∀ (mm i q : Nat) (l : List Nat) (u : f_Mem), mm = nbOf (t.getD p 0) - i → i ≤ nbOf (t.getD p 0) → q ≤ p + 1 + 3 * i → l.length = i → (∀ i, l.getD i 0 ≤ 99) → rdNs t (nbOf (t.getD p 0)) (p + 1) [] = rdNs t (nbOf (t.getD p 0) - i) q l → Num u 17 5 l → Fr σ u 17 19 → G 29 [some (.ref (f_ad E 16)), some (.int (iI p)), some (.int (iI (t.getD p 0 : Nat))), some (.int (iI (nbOf (t.getD p 0) : Nat))), some (.int (iI q)), some (.int (iI i))] [] u := by
    intro mm
    induction mm using Nat.strongRecOn with
    | ind mm ih =>
      intro i q l u hm hi hq hll h99 hr hl hF
      have ht := ht.fr hF (by omega)
      have hL := hL.fr hF (by omega)
      refine g_iload_5 hR dX5_readItem_29 (g_iload_3 hR dX5_readItem_31 (g_icmp_ge hR 89 dX5_readItem_32 (by decide) (by omega) (by omega) (fun c32 => ?_) (fun c32 => ?_)))
      · skip
        have e : i = nbOf (t.getD p 0) := by omega
        rw [e, Nat.sub_self] at hr
        have ho2 : rdItem t p L = (takeIt (t.getD p 0) l L).map (fun L2 => (q, L2)) := by unfold rdItem; rw [hr]; rfl
        rw [ho] at ho2
        cases hI : takeIt (t.getD p 0) l L with
        | none =>
          rw [hI] at ho2
          have ho2 : o = none := ho2
          subst ho2
          refine g_aload_0 hR dX5_readItem_89 (g_iload_2 hR dX5_readItem_90 (g_callV1Z hR dX5_readItem_91 mlX5_50 (by decide) rfl rfl (show FZ E sC mX5_takeItem 3 [.ref (f_ad E 16), .int (iI (t.getD p 0 : Nat))] u 0 (fun v => TkP u v none) from Cr_takeItem hl hL ok h99 (c := t.getD p 0) (by omega) hI) (by decide) (Nat.le_of_ble_eq_true rfl) (fun u1 hu1 => (g_if_eq hR 102 dX5_readItem_94 (by decide) (by omega) (fun c94 => ?_) (fun c94 => ?_)))))
          · skip
            refine g_bipush hR dX5_readItem_102 (by decide) ?_
            obtain ⟨⟨L3, g1, -⟩, g2⟩ := hu1
            exact g_iret hR dX5_readItem_104 rfl rfl ⟨⟨L3, g1, fun q h => by cases h⟩, ⟨_, hl.fr g2 (by omega)⟩, (hF.mono (by omega) (by omega)).tr (g2.mono (by omega) (by omega))⟩
          · skip
            exact absurd rfl c94
        | some L4 =>
          rw [hI] at ho2
          have ho2 : o = some (q, L4) := ho2
          subst ho2
          refine g_aload_0 hR dX5_readItem_89 (g_iload_2 hR dX5_readItem_90 (g_callV1Z hR dX5_readItem_91 mlX5_50 (by decide) rfl rfl (show FZ E sC mX5_takeItem 3 [.ref (f_ad E 16), .int (iI (t.getD p 0 : Nat))] u 1 (fun v => TkP u v (some L4)) from Cr_takeItem hl hL ok h99 (c := t.getD p 0) (by omega) hI) (by decide) (Nat.le_of_ble_eq_true rfl) (fun u1 hu1 => (g_if_eq hR 102 dX5_readItem_94 (by decide) (by omega) (fun c94 => ?_) (fun c94 => ?_)))))
          · skip
            exact absurd c94 (by omega)
          · skip
            refine g_iload_4 hR dX5_readItem_97 (g_goto hR 104 dX5_readItem_99 (by decide) ?_)
            obtain ⟨⟨L3, g1, g3⟩, g2⟩ := hu1
            have g4 := g3 L4 rfl
            subst g4
            exact g_iret hR dX5_readItem_104 rfl rfl ⟨⟨L3, g1, fun q h => by cases h; rfl⟩, ⟨_, hl.fr g2 (by omega)⟩, (hF.mono (by omega) (by omega)).tr (g2.mono (by omega) (by omega))⟩
      · skip
        obtain ⟨m, hm2⟩ : ∃ m, nbOf (t.getD p 0) - i = m + 1 := ⟨nbOf (t.getD p 0) - i - 1, by omega⟩
        rw [hm2] at hr
        simp only [rdNs] at hr
        cases hq2 : rdN t q with
        | none =>
          rw [hq2] at hr
          have ho2 : rdItem t p L = none := by unfold rdItem; rw [hr]
          rw [ho] at ho2
          subst ho2
          refine g_aload_0 hR dX5_readItem_35 (g_iload_4 hR dX5_readItem_36 (g_callV1P hR dX5_readItem_38 mlX5_47 (by decide) rfl rfl (show FZ E sC mX5_readNumber 1 [.ref (f_ad E 16), .int (iI q)] u (-4) (fun v => v = u) from Cr_readNumber ht hx hl (by omega) (by omega) hq2) (by decide) (Nat.le_of_ble_eq_true rfl) (g_istore_4 hR dX5_readItem_41 rfl (g_iload_4 hR dX5_readItem_43 (g_bipush hR dX5_readItem_45 (by decide) (g_icmp_eq hR 77 dX5_readItem_47 (by decide) (by omega) (by omega) (fun c47 => ?_) (fun c47 => ?_)))))))
          · skip
            refine g_bipush hR dX5_readItem_77 (by decide) ?_
            exact g_iret hR dX5_readItem_79 rfl rfl ⟨⟨L, hL, fun q h => by cases h⟩, ⟨_, hl⟩, hF.mono (by omega) (by omega)⟩
          · skip
            exact absurd rfl c47
        | some vq =>
          obtain ⟨v, q2⟩ := vq
          have hs := rdN_some hq2
          rw [hq2] at hr
          simp only at hr
          have x3 := hx q2
          refine g_aload_0 hR dX5_readItem_35 (g_iload_4 hR dX5_readItem_36 (g_callV1Z hR dX5_readItem_38 mlX5_47 (by decide) rfl rfl (show FZ E sC mX5_readNumber 1 [.ref (f_ad E 16), .int (iI q)] u ((q2 : Nat) : Int) (fun u2 => Num u2 17 5 (l ++ [v]) ∧ Fr u u2 17 19) from Cr_readNumber ht hx hl (by omega) (by omega) hq2) (by decide) (Nat.le_of_ble_eq_true rfl) (fun u1 hu1 => ?_)))
          have ht2 := ht.fr hu1.2 (by omega)
          have hF2 := hF.tr hu1.2
          refine g_istore_4 hR dX5_readItem_41 rfl (g_iload_4 hR dX5_readItem_43 (g_bipush hR dX5_readItem_45 (by decide) (g_icmp_eq hR 77 dX5_readItem_47 (by decide) (by omega) (by omega) (fun c47 => ?_) (fun c47 => ?_))))
          · skip
            exact absurd c47 (by omega)
          · skip
            refine g_aload_0 hR dX5_readItem_50 (g_getR hR dX5_readItem_51 flX5_20 (by decide) rfl rfl (g_iload_4 hR dX5_readItem_54 (g_callV1P hR dX5_readItem_56 mlX5_40 sh_text.lt sh_text.obj rfl (Cn_at ht2 (i := q2) (by omega)) (by decide) (Nat.le_of_ble_eq_true rfl) (g_iload_5 hR dX5_readItem_59 (g_iload_3 hR dX5_readItem_61 (g_iconst hR dX5_readItem_62 (g_isub hR dX5_readItem_63 (g_icmp_ne hR 72 dX5_readItem_64 (by decide) (by omega) (by omega) (fun c64 => ?_) (fun c64 => ?_)))))))))
            · skip
              refine g_bipush hR dX5_readItem_72 (by decide) (g_icmp_eq hR 80 dX5_readItem_74 (by decide) (by omega) (by omega) (fun c74 => ?_) (fun c74 => ?_))
              · skip
                refine g_iinc_4 hR dX5_readItem_80 rfl (g_iinc_5 hR dX5_readItem_83 rfl (g_goto hR 29 dX5_readItem_86 (by decide) ?_))
                rw [if_pos (by rw [if_neg (by omega)]; omega)] at hr
                exact ih (nbOf (t.getD p 0) - (i + 1)) (by omega) (i + 1) (q2 + 1) (l ++ [v]) u1 rfl (by omega) (by omega) (by rw [List.length_append, hll]; rfl) (getD_snoc_le h99 hs.1) (by rw [hr, show nbOf (t.getD p 0) - (i + 1) = m from by omega]) hu1.1 hF2
              · skip
                refine g_bipush hR dX5_readItem_77 (by decide) ?_
                rw [if_neg (by rw [if_neg (by omega)]; omega)] at hr
                have ho2 : rdItem t p L = none := by unfold rdItem; rw [hr]
                rw [ho] at ho2
                subst ho2
                exact g_iret hR dX5_readItem_79 rfl rfl ⟨⟨L, hL.fr hu1.2 (by omega), fun q h => by cases h⟩, ⟨_, hu1.1⟩, hF2.mono (by omega) (by omega)⟩
            · skip
              refine g_bipush hR dX5_readItem_67 (by decide) (g_goto hR 74 dX5_readItem_69 (by decide) (g_icmp_eq hR 80 dX5_readItem_74 (by decide) (by omega) (by omega) (fun c74 => ?_) (fun c74 => ?_)))
              · skip
                refine g_iinc_4 hR dX5_readItem_80 rfl (g_iinc_5 hR dX5_readItem_83 rfl (g_goto hR 29 dX5_readItem_86 (by decide) ?_))
                rw [if_pos (by rw [if_pos (by omega)]; omega)] at hr
                exact ih (nbOf (t.getD p 0) - (i + 1)) (by omega) (i + 1) (q2 + 1) (l ++ [v]) u1 rfl (by omega) (by omega) (by rw [List.length_append, hll]; rfl) (getD_snoc_le h99 hs.1) (by rw [hr, show nbOf (t.getD p 0) - (i + 1) = m from by omega]) hu1.1 hF2
              · skip
                refine g_bipush hR dX5_readItem_77 (by decide) ?_
                rw [if_neg (by rw [if_pos (by omega)]; omega)] at hr
                have ho2 : rdItem t p L = none := by unfold rdItem; rw [hr]
                rw [ho] at ho2
                subst ho2
                exact g_iret hR dX5_readItem_79 rfl rfl ⟨⟨L, hL.fr hu1.2 (by omega), fun q h => by cases h⟩, ⟨_, hu1.1⟩, hF2.mono (by omega) (by omega)⟩
  exact loop (nbOf (t.getD p 0)) 0 (p + 1) [] u1 (by omega) (by omega) (by omega) rfl (fun i => by simp) rfl hu1.1 hu1.2

theorem rdNs_le (t : List Nat) : ∀ (n p : Nat) (acc : List Nat) (q : List Nat × Nat), rdNs t n p acc = some q → p ≤ q.2 ∧ q.2 ≤ p + 3 * n
  | 0, p, acc, q, h => by simp only [rdNs] at h; cases h; exact ⟨Nat.le_refl _, Nat.le_refl _⟩
  | n + 1, p, acc, q, h => by
    simp only [rdNs] at h
    cases hq : rdN t p with
    | none => rw [hq] at h; cases h
    | some v =>
      obtain ⟨v, p2⟩ := v
      rw [hq] at h
      simp only at h
      have h1 := rdN_some hq
      by_cases hc : t.getD p2 0 = (if n = 0 then 59 else 44)
      · rw [if_pos hc] at h
        have h2 := rdNs_le t n _ _ q h
        omega
      · rw [if_neg hc] at h; cases h
theorem nbOf_le (c : Nat) : nbOf c ≤ 5 := by unfold nbOf; (repeat' split) <;> omega
theorem rdItem_le {t : List Nat} {p : Nat} {L : Les} {q : Nat × Les} (h : rdItem t p L = some q) : p < q.1 ∧ q.1 ≤ p + 16 := by
  unfold rdItem at h
  split at h
  · cases h
  · rename_i q2 hq
    obtain ⟨L2, h1, h2⟩ := Option.map_eq_some_iff.mp h
    have h3 := rdNs_le t _ _ _ _ hq
    have h4 := nbOf_le (t.getD p 0)
    rw [← h2]
    show p < q2.2 ∧ q2.2 ≤ p + 16
    omega
theorem rdItem_ok {t : List Nat} {p : Nat} {L : Les} {q : Nat × Les} (h : rdItem t p L = some q) (ok : LesOK L) : LesOK q.2 := by
  unfold rdItem at h
  split at h
  · cases h
  · obtain ⟨L2, h1, h2⟩ := Option.map_eq_some_iff.mp h
    rw [← h2]
    exact takeIt_ok h1 ok
def RaP (σ u : f_Mem) (o : Option Nat × Les) : Prop := (∃ L2, Lsn u 3 L2 ∧ (o.1 = none → L2 = o.2)) ∧ (∃ l, Num u 17 5 l) ∧ Fr σ u 3 19

theorem Cr_readAll {E : f_E} {σ : f_Mem} {t : List Nat} (ht : Num σ 1 200 t) (hx : Tx t) (hN : ∃ l, Num σ 17 5 l) (hL : ∃ L, Lsn σ 3 L) : FZ E sC mX5_readAll 5 [.ref (f_ad E 16)] σ (oI (rdText t).1) (fun u => RaP σ u (rdText t)) := by
  have htl := ht.le
  refine FZ.intro rfl (Nat.le_of_ble_eq_true rfl) (L0 := [some (.ref (f_ad E 16)), none, none, none]) rfl (fun G hR => ?_)
  obtain ⟨L1, hL1⟩ := hL
  refine g_aload_0 hR dX5_readAll_0 (g_getR hR dX5_readAll_1 flX5_23 (by decide) rfl rfl (g_callV0V hR dX5_readAll_4 mlX5_27 sh_told.lt sh_told.obj rfl (C_lsnClear hL1) (by decide) (Nat.le_of_ble_eq_true rfl) (fun u1 hu1 => (g_iconst hR dX5_readAll_7 (g_istore_1 hR dX5_readAll_8 rfl (g_iconst hR dX5_readAll_9 (g_istore_2 hR dX5_readAll_10 rfl ?_)))))))
  have loop : ∀ (mm i p : Nat) (L : Les) (u : f_Mem), mm = 200 - i → i ≤ 200 → (rdText t = rdAll t (200 - i) p L) → LesOK L → Lsn u 3 L → (∃ l, Num u 17 5 l) → Fr σ u 3 19 → p < 100000 → ∀ x3 : Option Value, G 11 [some (.ref (f_ad E 16)), some (.int (iI p)), some (.int (iI i)), x3] [] u := by
    intro mm
    induction mm using Nat.strongRecOn with
    | ind mm ih =>
      intro i p L u hm hi hr ok hL hN hF hp9 x3
      have ht := ht.fr hF (by omega)
      refine g_iload_2 hR dX5_readAll_11 (g_sipush hR dX5_readAll_12 (by decide) (g_icmp_ge hR 51 dX5_readAll_15 (by decide) (by omega) (by omega) (fun c15 => ?_) (fun c15 => ?_)))
      · skip
        have hr0 : rdText t = (none, L) := by rw [hr, show 200 - i = 0 from by omega]; rfl
        refine g_bipush hR dX5_readAll_51 (by decide) ?_
        exact g_iret hR dX5_readAll_53 rfl (by rw [hr0]; rfl) (by rw [hr0]; exact ⟨⟨L, hL, fun _ => rfl⟩, hN, hF⟩)
      · skip
        refine g_iload_1 hR dX5_readAll_18 (g_aload_0 hR dX5_readAll_19 (g_getR hR dX5_readAll_20 flX5_20 (by decide) rfl rfl (g_callV0P hR dX5_readAll_23 mlX5_32 sh_text.lt sh_text.obj rfl (Cn_size ht) (by decide) (Nat.le_of_ble_eq_true rfl) (g_icmp_ge hR 51 dX5_readAll_26 (by decide) (by omega) (by omega) (fun c26 => ?_) (fun c26 => ?_)))))
        · skip
          have hr0 : rdText t = (none, L) := by rw [hr, show 200 - i = (200 - i - 1) + 1 from by omega]; simp only [rdAll]; rw [if_neg (by omega)]
          refine g_bipush hR dX5_readAll_51 (by decide) ?_
          exact g_iret hR dX5_readAll_53 rfl (by rw [hr0]; rfl) (by rw [hr0]; exact ⟨⟨L, hL, fun _ => rfl⟩, hN, hF⟩)
        · skip
          have hr0 : rdText t = match rdItem t p L with
              | none => (some p, L)
              | some q => rdAll t (200 - (i + 1)) q.1 q.2 := by
            rw [hr, show 200 - i = (200 - (i + 1)) + 1 from by omega]
            simp only [rdAll]
            rw [if_pos (by omega)]
            cases rdItem t p L <;> rfl
          cases hI : rdItem t p L with
          | none =>
            rw [hI] at hr0
            have hr0 : rdText t = (some p, L) := hr0
            refine g_aload_0 hR dX5_readAll_29 (g_iload_1 hR dX5_readAll_30 (g_callV1Z hR dX5_readAll_31 mlX5_36 (by decide) rfl rfl (show FZ E sC mX5_readItem 4 [.ref (f_ad E 16), .int (iI p)] u (-4) (fun v => RdP u v none) from Cr_readItem ht hx hN hL ok (by omega) hI) (by decide) (Nat.le_of_ble_eq_true rfl) (fun u1 hu1 => (g_istore_3 hR dX5_readAll_34 rfl (g_iload_3 hR dX5_readAll_35 (g_bipush hR dX5_readAll_36 (by decide) (g_icmp_ne hR 43 dX5_readAll_38 (by decide) (by omega) (by omega) (fun c38 => ?_) (fun c38 => ?_))))))))
            · skip
              exact absurd rfl c38
            · skip
              refine g_iload_1 hR dX5_readAll_41 ?_
              obtain ⟨⟨L3, g1, -⟩, g2, g3⟩ := hu1
              exact g_iret hR dX5_readAll_42 rfl (by rw [hr0]; rfl) (by rw [hr0]; exact ⟨⟨L3, g1, fun h => by cases h⟩, g2, hF.tr g3⟩)
          | some q =>
            rw [hI] at hr0
            have hr0 : rdText t = rdAll t (200 - (i + 1)) q.1 q.2 := hr0
            have hq := rdItem_le hI
            refine g_aload_0 hR dX5_readAll_29 (g_iload_1 hR dX5_readAll_30 (g_callV1Z hR dX5_readAll_31 mlX5_36 (by decide) rfl rfl (show FZ E sC mX5_readItem 4 [.ref (f_ad E 16), .int (iI p)] u ((q.1 : Nat) : Int) (fun v => RdP u v (some q)) from Cr_readItem ht hx hN hL ok (by omega) hI) (by decide) (Nat.le_of_ble_eq_true rfl) (fun u1 hu1 => (g_istore_3 hR dX5_readAll_34 rfl (g_iload_3 hR dX5_readAll_35 (g_bipush hR dX5_readAll_36 (by decide) (g_icmp_ne hR 43 dX5_readAll_38 (by decide) (by omega) (by omega) (fun c38 => ?_) (fun c38 => ?_))))))))
            · skip
              refine g_iload_3 hR dX5_readAll_43 (g_istore_1 hR dX5_readAll_44 rfl (g_iinc_2 hR dX5_readAll_45 rfl (g_goto hR 11 dX5_readAll_48 (by decide) ?_)))
              obtain ⟨⟨L3, g1, g4⟩, g2, g3⟩ := hu1
              have g5 := g4 q rfl
              subst g5
              exact ih (200 - (i + 1)) (by omega) (i + 1) q.1 q.2 u1 rfl (by omega) hr0 (rdItem_ok hI ok) g1 g2 (hF.tr g3) (by omega) _
            · skip
              exact absurd c38 (by omega)
  exact loop 200 0 0 L00 u1 (by omega) (by omega) rfl L00_ok hu1.1 (by obtain ⟨l, hl⟩ := hN; exact ⟨l, hl.fr hu1.2 (by omega)⟩) (hu1.2.mono (by omega) (by omega)) (by omega) _
