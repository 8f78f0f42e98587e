theorem K_does {E : f_E} {σ : f_Mem} {A : AS} (h : InvC σ A) (ok : ASOK A) {s a : Int} (hs : -2147483648 ≤ s ∧ s < 2147483648) (ha : -2147483648 ≤ a ∧ a < 2147483648) : FZ E sC mX7_does 12 [.ref (f_ad E 0), .int (iI s), .int (iI a)] σ (sp_does A s a) (fun u => InvC u A) := by
  have hK1 := ok.K1
  have hK6 := ok.K6
  have hkk : AK A = (Lm (AL A)).length := rfl
  refine FZ.intro rfl (Nat.le_of_ble_eq_true rfl) (L0 := [some (.ref (f_ad E 0)), some (.int (iI s)), some (.int (iI a))]) rfl (fun G hR => ?_)
  refine g_iload_1 hR dX7_does_0 (g_callS1P hR dX7_does_1 mlX7_157 (C_isSort hs) (by decide) (Nat.le_of_ble_eq_true rfl) (g_if_eq hR 30 dX7_does_4 (by decide) (by split <;> omega) (fun c4 => ?_) (fun c4 => ?_)))
  · skip
    refine g_iconst hR dX7_does_30 ?_
    exact g_iret hR dX7_does_31 rfl (by unfold sp_does; rw [if_neg (by omega)]; skip) h
  · skip
    refine g_aload_0 hR dX7_does_7 (g_getR hR dX7_does_8 flX7_34 (by decide) rfl rfl (g_iload_2 hR dX7_does_11 (g_callV1P hR dX7_does_12 mlX7_121 sh_laid.lt sh_laid.obj rfl (C_isKind h.L ha) (by decide) (Nat.le_of_ble_eq_true rfl) (g_if_eq hR 30 dX7_does_15 (by decide) (by split <;> omega) (fun c15 => ?_) (fun c15 => ?_)))))
    · skip
      refine g_iconst hR dX7_does_30 ?_
      exact g_iret hR dX7_does_31 rfl (by unfold sp_does; rw [if_neg (by omega)]; skip) h
    · skip
      obtain ⟨s2, rfl⟩ : ∃ s2 : Nat, s = s2 := ⟨s.toNat, by omega⟩
      obtain ⟨k, rfl⟩ : ∃ k : Nat, a = k := ⟨a.toNat, by omega⟩
      refine g_aload_0 hR dX7_does_18 (g_iload_1 hR dX7_does_19 (g_callV1R hR dX7_does_20 mlX7_160 (by decide) rfl rfl (C_learnerNow h ok (s := s2) (by omega)) (by decide) (Nat.le_of_ble_eq_true rfl) (fun u1 hu1 => ?_)))
      have h1 := h.l0 hu1.2 hu1.1.x
      refine g_iload_2 hR dX7_does_23 (g_callV1P hR dX7_does_24 mlX7_164 sh_lrn0.lt sh_lrn0.obj rfl (C_willDo hu1.1 h1.L ok.L ok.w (by omega) ok.L.f (by have := ok.wl; omega) (k := k) (by omega)) (by decide) (Nat.le_of_ble_eq_true rfl) (g_goto hR 31 dX7_does_27 (by decide) ?_))
      exact g_iret hR dX7_does_31 rfl (by unfold sp_does; rw [if_pos (by omega)]; rfl) h1

theorem InvC.mem {σ u v : f_Mem} {A : AS} {M : Mms} {P : List Nat} {l : List Mms} (h : InvC σ A) (hp : Shf u 37 8 P l) (hf : Fr σ u 37 79) (hM : Mm v 32 M) (hg : Fr u v 32 37) : InvC v (At A, AL A, M, l, Ak A, Az A) := by
  obtain ⟨P2, hk⟩ := h.k
  exact ⟨(h.t.fr hf (by omega)).fr hg (by omega), (h.L.fr hf (by omega)).fr hg (by omega), hM, ⟨P, hp.fr hg (by omega)⟩, ⟨P2, (hk.fr hf (by omega)).fr hg (by omega)⟩, (h.z.fr hf (by omega)).fr hg (by omega), (h.s.fr hf (by omega)).fr hg (by omega)⟩

theorem K_hand {E : f_E} {σ : f_Mem} {A : AS} (h : InvC σ A) (ok : ASOK A) {a : Int} (ha : -2147483648 ≤ a ∧ a < 2147483648) : FZ E sC mX7_hand 12 [.ref (f_ad E 0), .int (iI a)] σ (sp_hand A a).1 (fun u => InvC u (sp_hand A a).2) := by
  have hK1 := ok.K1
  have hK6 := ok.K6
  have hkk : AK A = (Lm (AL A)).length := rfl
  refine FZ.intro rfl (Nat.le_of_ble_eq_true rfl) (L0 := [some (.ref (f_ad E 0)), some (.int (iI a)), none]) rfl (fun G hR => ?_)
  refine g_aload_0 hR dX7_hand_0 (g_getR hR dX7_hand_1 flX7_34 (by decide) rfl rfl (g_iload_1 hR dX7_hand_4 (g_callV1P hR dX7_hand_5 mlX7_121 sh_laid.lt sh_laid.obj rfl (C_isKind h.L ha) (by decide) (Nat.le_of_ble_eq_true rfl) (g_if_ne hR 13 dX7_hand_8 (by decide) (by split <;> omega) (fun c8 => ?_) (fun c8 => ?_)))))
  · skip
    obtain ⟨k, rfl⟩ : ∃ k : Nat, a = k := ⟨a.toNat, by omega⟩
    refine g_aload_0 hR dX7_hand_13 (g_aload_0 hR dX7_hand_14 (g_getR hR dX7_hand_15 flX7_34 (by decide) rfl rfl (g_getI hR _ dX7_hand_18 flX7_167 sh_laid.lt sh_laid.obj rfl h.L.sort (g_callV1R hR dX7_hand_21 mlX7_160 (by decide) rfl rfl (C_learnerNow h ok ok.L.s) (by decide) (Nat.le_of_ble_eq_true rfl) (fun u1 hu1 => ?_)))))
    have h1 := h.l0 hu1.2 hu1.1.x
    obtain ⟨Pp, hp⟩ := h1.p
    refine g_iload_1 hR dX7_hand_24 (g_callV1P hR dX7_hand_25 mlX7_164 sh_lrn0.lt sh_lrn0.obj rfl (C_willDo hu1.1 h1.L ok.L ok.w ok.L.s ok.L.f (by have := ok.wl; omega) (k := k) (by omega)) (by decide) (Nat.le_of_ble_eq_true rfl) (g_istore_2 hR dX7_hand_28 rfl (g_aload_0 hR dX7_hand_29 (g_getR hR dX7_hand_30 flX7_47 (by decide) rfl rfl (g_aload_0 hR dX7_hand_33 (g_getR hR dX7_hand_34 flX7_40 (by decide) rfl rfl (g_callV1V hR dX7_hand_37 mlX7_171 sh_past.lt sh_past.obj rfl (Cs_add hp (by omega) h1.M (by omega)) (by decide) (Nat.le_of_ble_eq_true rfl) (fun u2 hu2 => ?_))))))))
    obtain ⟨⟨P2, hp2⟩, hf2⟩ := hu2
    have hM2 := h1.M.fr hf2 (by omega)
    have hL2 := h1.L.fr hf2 (by omega)
    have hd := does_lt (AL A) (Lsort (AL A)) ok.L.f k (AM A).1
    refine g_aload_0 hR dX7_hand_40 (g_getR hR dX7_hand_41 flX7_40 (by decide) rfl rfl (g_aload_0 hR dX7_hand_44 (g_getR hR dX7_hand_45 flX7_34 (by decide) rfl rfl (g_iload_1 hR dX7_hand_48 (g_iload_2 hR dX7_hand_49 (g_callV3V hR dX7_hand_50 mlX7_174 sh_memory.lt sh_memory.obj rfl (C_addDay hM2 hL2 ok.L (by omega) hd (by omega)) (by decide) (Nat.le_of_ble_eq_true rfl) (fun u3 hu3 => (g_aload_0 hR dX7_hand_53 (g_getR hR dX7_hand_54 flX7_34 (by decide) rfl rfl (g_iload_1 hR dX7_hand_57 (g_iload_2 hR dX7_hand_58 (g_callV2P hR dX7_hand_59 mlX7_178 sh_laid.lt sh_laid.obj rfl (C_outcome (hL2.fr hu3.2 (by omega)) ok.L (by omega) hd) (by decide) (Nat.le_of_ble_eq_true rfl) ?_))))))))))))
    exact g_iret hR dX7_hand_62 rfl (by unfold sp_hand; rw [if_pos (by omega)]; rfl) (by unfold sp_hand; rw [if_pos (by omega)]; exact h1.mem hp2 hf2 hu3.1 hu3.2)
  · skip
    refine g_iconst hR dX7_hand_11 ?_
    exact g_iret hR dX7_hand_12 rfl (by unfold sp_hand; rw [if_neg (by omega)]; skip) (by unfold sp_hand; rw [if_neg (by omega)]; exact h)
theorem K_teach {E : f_E} {σ : f_Mem} {A : AS} (h : InvC σ A) (ok : ASOK A) {a d : Int} (ha : -2147483648 ≤ a ∧ a < 2147483648) (hd : -2147483648 ≤ d ∧ d < 2147483648) : FZ E sC mX7_teach 12 [.ref (f_ad E 0), .int (iI a), .int (iI d)] σ (sp_teach A a d).1 (fun u => InvC u (sp_teach A a d).2) := by
  have hK1 := ok.K1
  have hK6 := ok.K6
  have hkk : AK A = (Lm (AL A)).length := rfl
  refine FZ.intro rfl (Nat.le_of_ble_eq_true rfl) (L0 := [some (.ref (f_ad E 0)), some (.int (iI a)), some (.int (iI d))]) rfl (fun G hR => ?_)
  refine g_aload_0 hR dX7_teach_0 (g_getR hR dX7_teach_1 flX7_34 (by decide) rfl rfl (g_iload_1 hR dX7_teach_4 (g_callV1P hR dX7_teach_5 mlX7_121 sh_laid.lt sh_laid.obj rfl (C_isKind h.L ha) (by decide) (Nat.le_of_ble_eq_true rfl) (g_if_eq hR 18 dX7_teach_8 (by decide) (by split <;> omega) (fun c8 => ?_) (fun c8 => ?_)))))
  · skip
    refine g_iconst hR dX7_teach_18 ?_
    exact g_iret hR dX7_teach_19 rfl (by unfold sp_teach; rw [if_neg (by omega)]; skip) (by unfold sp_teach; rw [if_neg (by omega)]; exact h)
  · skip
    refine g_iload_2 hR dX7_teach_11 (g_callS1P hR dX7_teach_12 mlX7_181 (C_isDoing hd) (by decide) (Nat.le_of_ble_eq_true rfl) (g_if_ne hR 20 dX7_teach_15 (by decide) (by split <;> omega) (fun c15 => ?_) (fun c15 => ?_)))
    · skip
      obtain ⟨k, rfl⟩ : ∃ k : Nat, a = k := ⟨a.toNat, by omega⟩
      obtain ⟨j, rfl⟩ : ∃ j : Nat, d = j := ⟨d.toNat, by omega⟩
      obtain ⟨Pp, hp⟩ := h.p
      refine g_aload_0 hR dX7_teach_20 (g_getR hR dX7_teach_21 flX7_47 (by decide) rfl rfl (g_aload_0 hR dX7_teach_24 (g_getR hR dX7_teach_25 flX7_40 (by decide) rfl rfl (g_callV1V hR dX7_teach_28 mlX7_171 sh_past.lt sh_past.obj rfl (Cs_add hp (by omega) h.M (by omega)) (by decide) (Nat.le_of_ble_eq_true rfl) (fun u1 hu1 => ?_)))))
      obtain ⟨⟨P2, hp2⟩, hf2⟩ := hu1
      have hM2 := h.M.fr hf2 (by omega)
      refine g_aload_0 hR dX7_teach_31 (g_getR hR dX7_teach_32 flX7_40 (by decide) rfl rfl (g_iload_1 hR dX7_teach_35 (g_iload_2 hR dX7_teach_36 (g_callV2V hR dX7_teach_37 mlX7_184 sh_memory.lt sh_memory.obj rfl (C_addWord hM2 (k := k) (d := j)) (by decide) (Nat.le_of_ble_eq_true rfl) (fun u2 hu2 => ?_)))))
      have hg2 : Fr u1 u2 32 37 := hu2.2.mono (by omega) (by omega)
      refine g_aload_0 hR dX7_teach_40 (g_getR hR dX7_teach_41 flX7_40 (by decide) rfl rfl (g_getR hR dX7_teach_44 flX7_150 sh_memory.lt sh_memory.obj rfl (g_callV0P hR dX7_teach_47 mlX7_113 sh_memory.words.lt sh_memory.words.obj rfl ((show FZ E sC mX3_size 0 [.ref (f_ad E 33)] u2 ((wordM (AM A) (6 * k + j)).1.length : Nat) (fun u => u = u2) from (List.length_reverse (as := (wordM (AM A) (6 * k + j)).1)) ▸ Cn_size hu2.1.wd)) (by decide) (Nat.le_of_ble_eq_true rfl) ?_)))
      exact g_iret hR dX7_teach_50 rfl (by unfold sp_teach; rw [if_pos (by omega)]; rfl) (by unfold sp_teach; rw [if_pos (by omega)]; exact h.mem hp2 hf2 hu2.1 hg2)
    · skip
      refine g_iconst hR dX7_teach_18 ?_
      exact g_iret hR dX7_teach_19 rfl (by unfold sp_teach; rw [if_neg (by omega)]; skip) (by unfold sp_teach; rw [if_neg (by omega)]; exact h)

theorem InvC.pop {σ u : f_Mem} {A : AS} {M : Mms} {P : List Nat} {l : List Mms} (h : InvC σ A) (hp : Shf u 37 8 P l) (hM : Mm u 32 M) (hf : ∀ q, (q < 32 ∨ 32 + 5 ≤ q) → q ≠ 37 → u q = σ q) : InvC u (At A, AL A, M, l, Ak A, Az A) := by
  have hF : Fr σ u 32 38 := fun q hq => hf q (by omega) (by omega)
  obtain ⟨P2, hk⟩ := h.k
  exact ⟨h.t.fr hF (by omega), h.L.fr hF (by omega), hM, ⟨P, hp⟩, ⟨P2, hk.fr hF (by omega)⟩, h.z.fr hF (by omega), h.s.fr hF (by omega)⟩
theorem Fr.split2 {σ u : f_Mem} {m n : Nat} (hf : ∀ q, (q < m ∨ m + 5 ≤ q) → q ≠ n → u q = σ q) : ∃ v, Fr σ v m (m + 5) ∧ Fr v u n (n + 1) := by
  refine ⟨fun q => if q = n then σ q else u q, fun q hq => ?_, fun q hq => ?_⟩
  · show (if q = n then σ q else u q) = σ q
    by_cases h : q = n
    · rw [if_pos h]
    · rw [if_neg h]; exact hf q hq h
  · show u q = (if q = n then σ q else u q)
    rw [if_neg (by omega)]
theorem getD_at {α : Type} {l : List α} {d : α} {i : Nat} (h : i < l.length) : l[i]? = some (l.getD i d) := by simp [List.getD, h]
theorem InvC.setK {σ u : f_Mem} {A : AS} {P : List Nat} {l : List Mms} (h : InvC σ A) (hk : Shf u 79 2 P l) (hf : Fr σ u 79 91) : InvC u (At A, AL A, AM A, Ap A, l, Az A) := by
  obtain ⟨P2, hp⟩ := h.p
  exact ⟨h.t.fr hf (by omega), h.L.fr hf (by omega), h.M.fr hf (by omega), ⟨P2, hp.fr hf (by omega)⟩, ⟨P, hk⟩, h.z.fr hf (by omega), h.s.fr hf (by omega)⟩
theorem InvC.bk {σ u v : f_Mem} {A : AS} {M : Mms} {P P3 : List Nat} {l l3 : List Mms} (h : InvC σ A) (hk : Shf u 79 2 P l) (hM : Mm u 32 M) (hf : ∀ q, (q < 32 ∨ 32 + 5 ≤ q) → q ≠ 79 → u q = σ q) (hp : Shf v 37 8 P3 l3) (hg : Fr u v 37 38) : InvC v (At A, AL A, M, l3, l, Az A) := by
  have hF : Fr σ u 32 80 := fun q hq => hf q (by omega) (by omega)
  have hs : Scr u := by
    obtain ⟨⟨L, h1⟩, ⟨l2, h2⟩, ⟨l3, h3⟩, ⟨l4, h4⟩, h5, ⟨l6, h6⟩, ⟨l7, h7⟩, ⟨l8, h8⟩⟩ := h.s
    exact ⟨⟨L, h1.fr hF (by omega)⟩, ⟨l2, h2.fr hF (by omega)⟩, ⟨l3, h3.fr hF (by omega)⟩, ⟨l4, h4.fr hF (by omega)⟩, fun j hj => (h5 j hj).fr hF (by omega), ⟨l6, h6.fr hF (by omega)⟩, ⟨l7, h7.fr hF (by omega)⟩, ⟨l8, h8.fr hF (by omega)⟩⟩
  exact ⟨(h.t.fr hF (by omega)).fr hg (by omega), (h.L.fr hF (by omega)).fr hg (by omega), hM.fr hg (by omega), ⟨P3, hp⟩, ⟨P, hk.fr hg (by omega)⟩, (h.z.fr hF (by omega)).fr hg (by omega), hs.fr hg (by omega)⟩

theorem K_undo {E : f_E} {σ : f_Mem} {A : AS} (h : InvC σ A) (ok : ASOK A) : FZ E sC mX7_undo 12 [.ref (f_ad E 0)] σ (sp_undo A).1 (fun u => InvC u (sp_undo A).2) := by
  obtain ⟨Pp, hp⟩ := h.p
  have hle := hp.le
  refine FZ.intro rfl (Nat.le_of_ble_eq_true rfl) (L0 := [some (.ref (f_ad E 0))]) rfl (fun G hR => ?_)
  refine g_aload_0 hR dX7_undo_0 (g_getR hR dX7_undo_1 flX7_47 (by decide) rfl rfl (g_callV0P hR dX7_undo_4 mlX7_188 sh_past.lt sh_past.obj rfl (Cs_size hp) (by decide) (Nat.le_of_ble_eq_true rfl) (g_if_ne hR 13 dX7_undo_7 (by decide) (by omega) (fun c7 => ?_) (fun c7 => ?_))))
  · skip
    refine g_aload_0 hR dX7_undo_13 (g_getR hR dX7_undo_14 flX7_47 (by decide) rfl rfl (g_aload_0 hR dX7_undo_17 (g_getR hR dX7_undo_18 flX7_40 (by decide) rfl rfl (g_callV1V hR dX7_undo_21 mlX7_189 sh_past.lt sh_past.obj rfl (Cs_takeLast hp (M := (Ap A).getD ((Ap A).length - 1) M00) (by omega) (getD_at (by omega)) h.M.x (by omega)) (by decide) (Nat.le_of_ble_eq_true rfl) (fun u1 hu1 => ?_)))))
    obtain ⟨⟨P2, hp2⟩, hM2, hf2⟩ := hu1
    refine g_aload_0 hR dX7_undo_24 (g_getR hR dX7_undo_25 flX7_47 (by decide) rfl rfl (g_callV0P hR dX7_undo_28 mlX7_188 sh_past.lt sh_past.obj rfl (Cs_size hp2) (by decide) (Nat.le_of_ble_eq_true rfl) ?_))
    exact g_iret hR dX7_undo_31 rfl (by unfold sp_undo; rw [if_neg (by omega)]; rw [List.length_dropLast]; omega) (by unfold sp_undo; rw [if_neg (by omega)]; exact h.pop hp2 hM2 hf2)
  · skip
    refine g_bipush hR dX7_undo_10 (by decide) ?_
    exact g_iret hR dX7_undo_12 rfl (by unfold sp_undo; rw [if_pos (by omega)]; skip) (by unfold sp_undo; rw [if_pos (by omega)]; exact h)
theorem K_tell {E : f_E} {σ : f_Mem} {A : AS} (h : InvC σ A) (ok : ASOK A) {a : Int} (ha : -2147483648 ≤ a ∧ a < 2147483648) : FZ E sC mX7_tell 12 [.ref (f_ad E 0), .int (iI a)] σ (sp_tell A a).1 (fun u => InvC u (sp_tell A a).2) := by
  have hK1 := ok.K1
  have hK6 := ok.K6
  have hkk : AK A = (Lm (AL A)).length := rfl
  have hle := h.L.row.le
  refine FZ.intro rfl (Nat.le_of_ble_eq_true rfl) (L0 := [some (.ref (f_ad E 0)), some (.int (iI a))]) rfl (fun G hR => ?_)
  refine g_aload_0 hR dX7_tell_0 (g_getR hR dX7_tell_1 flX7_34 (by decide) rfl rfl (g_iload_1 hR dX7_tell_4 (g_callV1P hR dX7_tell_5 mlX7_121 sh_laid.lt sh_laid.obj rfl (C_isKind h.L ha) (by decide) (Nat.le_of_ble_eq_true rfl) (g_if_ne hR 13 dX7_tell_8 (by decide) (by split <;> omega) (fun c8 => ?_) (fun c8 => ?_)))))
  · skip
    obtain ⟨k, rfl⟩ : ∃ k : Nat, a = k := ⟨a.toNat, by omega⟩
    refine g_aload_0 hR dX7_tell_13 (g_getR hR dX7_tell_14 flX7_34 (by decide) rfl rfl (g_getR hR dX7_tell_17 flX7_147 sh_laid.lt sh_laid.obj rfl (g_callV0P hR dX7_tell_20 mlX7_109 sh_laid.row.lt sh_laid.row.obj rfl (Cn_isFull h.L.row) (by decide) (Nat.le_of_ble_eq_true rfl) (g_if_eq hR 29 dX7_tell_23 (by decide) (by split <;> omega) (fun c23 => ?_) (fun c23 => ?_)))))
    · skip
      refine g_aload_0 hR dX7_tell_29 (g_getR hR dX7_tell_30 flX7_34 (by decide) rfl rfl (g_getR hR dX7_tell_33 flX7_147 sh_laid.lt sh_laid.obj rfl (g_iload_1 hR dX7_tell_36 (g_callV1V hR dX7_tell_37 mlX7_93 sh_laid.row.lt sh_laid.row.obj rfl (Cn_add h.L.row (v := k) (by omega)) (by decide) (Nat.le_of_ble_eq_true rfl) (fun u1 hu1 => (g_aload_0 hR dX7_tell_40 (g_getR hR dX7_tell_41 flX7_34 (by decide) rfl rfl (g_getR hR dX7_tell_44 flX7_147 sh_laid.lt sh_laid.obj rfl (g_callV0P hR dX7_tell_47 mlX7_113 sh_laid.row.lt sh_laid.row.obj rfl (Cn_size hu1.1) (by decide) (Nat.le_of_ble_eq_true rfl) ?_)))))))))
      exact g_iret hR dX7_tell_50 rfl (by unfold sp_tell; rw [if_pos (by omega), if_neg (by omega)]; rw [List.length_append]; rfl) (by unfold sp_tell; rw [if_pos (by omega), if_neg (by omega)]; exact h.setR hu1.1 hu1.2)
    · skip
      refine g_bipush hR dX7_tell_26 (by decide) ?_
      exact g_iret hR dX7_tell_28 rfl (by unfold sp_tell; rw [if_pos (by omega), if_pos (by omega)]; skip) (by unfold sp_tell; rw [if_pos (by omega), if_pos (by omega)]; exact h)
  · skip
    refine g_iconst hR dX7_tell_11 ?_
    exact g_iret hR dX7_tell_12 rfl (by unfold sp_tell; rw [if_neg (by omega)]; skip) (by unfold sp_tell; rw [if_neg (by omega)]; exact h)
theorem K_noRow {E : f_E} {σ : f_Mem} {A : AS} (h : InvC σ A) (ok : ASOK A) : FZ E sC mX7_noRow 12 [.ref (f_ad E 0)] σ (sp_noRow A).1 (fun u => InvC u (sp_noRow A).2) := by
  refine FZ.intro rfl (Nat.le_of_ble_eq_true rfl) (L0 := [some (.ref (f_ad E 0)), none]) rfl (fun G hR => ?_)
  refine g_aload_0 hR dX7_noRow_0 (g_getR hR dX7_noRow_1 flX7_34 (by decide) rfl rfl (g_getR hR dX7_noRow_4 flX7_147 sh_laid.lt sh_laid.obj rfl (g_callV0P hR dX7_noRow_7 mlX7_113 sh_laid.row.lt sh_laid.row.obj rfl (Cn_size h.L.row) (by decide) (Nat.le_of_ble_eq_true rfl) (g_istore_1 hR dX7_noRow_10 rfl (g_aload_0 hR dX7_noRow_11 (g_getR hR dX7_noRow_12 flX7_34 (by decide) rfl rfl (g_getR hR dX7_noRow_15 flX7_147 sh_laid.lt sh_laid.obj rfl (g_callV0V hR dX7_noRow_18 mlX7_102 sh_laid.row.lt sh_laid.row.obj rfl (Cn_clear h.L.row) (by decide) (Nat.le_of_ble_eq_true rfl) (fun u1 hu1 => ?_)))))))))
  have h1 := h.setR hu1.1 hu1.2
  refine g_aload_0 hR dX7_noRow_21 (g_getR hR dX7_noRow_22 flX7_54 (by decide) rfl rfl (g_callV0V hR dX7_noRow_25 mlX7_102 sh_seen.lt sh_seen.obj rfl (Cn_clear h1.z) (by decide) (Nat.le_of_ble_eq_true rfl) (fun u2 hu2 => (g_iload_1 hR dX7_noRow_28 ?_))))
  exact g_iret hR dX7_noRow_29 rfl rfl (h1.setZ hu2.1 hu2.2)
theorem K_seen {E : f_E} {σ : f_Mem} {A : AS} (h : InvC σ A) (ok : ASOK A) {a d : Int} (ha : -2147483648 ≤ a ∧ a < 2147483648) (hd : -2147483648 ≤ d ∧ d < 2147483648) : FZ E sC mX7_seen 12 [.ref (f_ad E 0), .int (iI a), .int (iI d)] σ (sp_seen A a d).1 (fun u => InvC u (sp_seen A a d).2) := by
  have hle := h.L.row.le
  have hlz := h.z.le
  refine FZ.intro rfl (Nat.le_of_ble_eq_true rfl) (L0 := [some (.ref (f_ad E 0)), some (.int (iI a)), some (.int (iI d))]) rfl (fun G hR => ?_)
  refine g_iload_1 hR dX7_seen_0 (g_iconst hR dX7_seen_1 (g_aload_0 hR dX7_seen_2 (g_getR hR dX7_seen_3 flX7_34 (by decide) rfl rfl (g_getR hR dX7_seen_6 flX7_147 sh_laid.lt sh_laid.obj rfl (g_callV0P hR dX7_seen_9 mlX7_113 sh_laid.row.lt sh_laid.row.obj rfl (Cn_size h.L.row) (by decide) (Nat.le_of_ble_eq_true rfl) (g_iconst hR dX7_seen_12 (g_isub hR dX7_seen_13 (g_callS3P hR dX7_seen_14 mlX7_105 (C_isWithin ha (by omega) (by omega)) (by decide) (Nat.le_of_ble_eq_true rfl) (g_if_eq hR 27 dX7_seen_17 (by decide) (by split <;> omega) (fun c17 => ?_) (fun c17 => ?_))))))))))
  · skip
    refine g_iconst hR dX7_seen_27 ?_
    exact g_iret hR dX7_seen_28 rfl (by unfold sp_seen; rw [if_neg (by omega)]; skip) (by unfold sp_seen; rw [if_neg (by omega)]; exact h)
  · skip
    refine g_iload_2 hR dX7_seen_20 (g_callS1P hR dX7_seen_21 mlX7_181 (C_isDoing hd) (by decide) (Nat.le_of_ble_eq_true rfl) (g_if_ne hR 29 dX7_seen_24 (by decide) (by split <;> omega) (fun c24 => ?_) (fun c24 => ?_)))
    · skip
      obtain ⟨k, rfl⟩ : ∃ k : Nat, a = k := ⟨a.toNat, by omega⟩
      obtain ⟨j, rfl⟩ : ∃ j : Nat, d = j := ⟨d.toNat, by omega⟩
      refine g_aload_0 hR dX7_seen_29 (g_getR hR dX7_seen_30 flX7_54 (by decide) rfl rfl (g_callV0P hR dX7_seen_33 mlX7_109 sh_seen.lt sh_seen.obj rfl (Cn_isFull h.z) (by decide) (Nat.le_of_ble_eq_true rfl) (g_if_eq hR 42 dX7_seen_36 (by decide) (by split <;> omega) (fun c36 => ?_) (fun c36 => ?_))))
      · skip
        refine g_aload_0 hR dX7_seen_42 (g_getR hR dX7_seen_43 flX7_54 (by decide) rfl rfl (g_bipush hR dX7_seen_46 (by decide) (g_iload_1 hR dX7_seen_48 (g_imul hR dX7_seen_49 (g_iload_2 hR dX7_seen_50 (g_iadd hR dX7_seen_51 (g_callV1V hR dX7_seen_52 mlX7_93 sh_seen.lt sh_seen.obj rfl (Cn_add h.z (v := 6 * k + j) (by omega)) (by decide) (Nat.le_of_ble_eq_true rfl) (fun u1 hu1 => (g_aload_0 hR dX7_seen_55 (g_getR hR dX7_seen_56 flX7_54 (by decide) rfl rfl (g_callV0P hR dX7_seen_59 mlX7_113 sh_seen.lt sh_seen.obj rfl (Cn_size hu1.1) (by decide) (Nat.le_of_ble_eq_true rfl) ?_)))))))))))
        exact g_iret hR dX7_seen_62 rfl (by unfold sp_seen; rw [if_pos (by omega), if_neg (by omega)]; rw [List.length_append]; rfl) (by unfold sp_seen; rw [if_pos (by omega), if_neg (by omega)]; exact h.setZ hu1.1 hu1.2)
      · skip
        refine g_bipush hR dX7_seen_39 (by decide) ?_
        exact g_iret hR dX7_seen_41 rfl (by unfold sp_seen; rw [if_pos (by omega), if_pos (by omega)]; skip) (by unfold sp_seen; rw [if_pos (by omega), if_pos (by omega)]; exact h)
    · skip
      refine g_iconst hR dX7_seen_27 ?_
      exact g_iret hR dX7_seen_28 rfl (by unfold sp_seen; rw [if_neg (by omega)]; skip) (by unfold sp_seen; rw [if_neg (by omega)]; exact h)
theorem K_forget {E : f_E} {σ : f_Mem} {A : AS} (h : InvC σ A) (ok : ASOK A) : FZ E sC mX7_forget 12 [.ref (f_ad E 0)] σ (sp_forget A).1 (fun u => InvC u (sp_forget A).2) := by
  refine FZ.intro rfl (Nat.le_of_ble_eq_true rfl) (L0 := [some (.ref (f_ad E 0)), none]) rfl (fun G hR => ?_)
  refine g_aload_0 hR dX7_forget_0 (g_getR hR dX7_forget_1 flX7_54 (by decide) rfl rfl (g_callV0P hR dX7_forget_4 mlX7_113 sh_seen.lt sh_seen.obj rfl (Cn_size h.z) (by decide) (Nat.le_of_ble_eq_true rfl) (g_istore_1 hR dX7_forget_7 rfl (g_aload_0 hR dX7_forget_8 (g_getR hR dX7_forget_9 flX7_54 (by decide) rfl rfl (g_callV0V hR dX7_forget_12 mlX7_102 sh_seen.lt sh_seen.obj rfl (Cn_clear h.z) (by decide) (Nat.le_of_ble_eq_true rfl) (fun u1 hu1 => (g_iload_1 hR dX7_forget_15 ?_))))))))
  exact g_iret hR dX7_forget_16 rfl rfl (h.setZ hu1.1 hu1.2)
theorem K_keep {E : f_E} {σ : f_Mem} {A : AS} (h : InvC σ A) (ok : ASOK A) : FZ E sC mX7_keep 12 [.ref (f_ad E 0)] σ (sp_keep A).1 (fun u => InvC u (sp_keep A).2) := by
  obtain ⟨Pk, hk⟩ := h.k
  have hle := hk.le
  refine FZ.intro rfl (Nat.le_of_ble_eq_true rfl) (L0 := [some (.ref (f_ad E 0))]) rfl (fun G hR => ?_)
  refine g_aload_0 hR dX7_keep_0 (g_getR hR dX7_keep_1 flX7_51 (by decide) rfl rfl (g_callV0P hR dX7_keep_4 mlX7_268 sh_kept.lt sh_kept.obj rfl (Cs_isFull hk) (by decide) (Nat.le_of_ble_eq_true rfl) (g_if_eq hR 13 dX7_keep_7 (by decide) (by split <;> omega) (fun c7 => ?_) (fun c7 => ?_))))
  · skip
    refine g_aload_0 hR dX7_keep_13 (g_getR hR dX7_keep_14 flX7_51 (by decide) rfl rfl (g_aload_0 hR dX7_keep_17 (g_getR hR dX7_keep_18 flX7_40 (by decide) rfl rfl (g_callV1V hR dX7_keep_21 mlX7_171 sh_kept.lt sh_kept.obj rfl (Cs_add hk (by omega) h.M (by omega)) (by decide) (Nat.le_of_ble_eq_true rfl) (fun u1 hu1 => ?_)))))
    obtain ⟨⟨P2, hk2⟩, hf2⟩ := hu1
    rw [if_pos (by omega)] at hk2
    refine g_aload_0 hR dX7_keep_24 (g_getR hR dX7_keep_25 flX7_51 (by decide) rfl rfl (g_callV0P hR dX7_keep_28 mlX7_188 sh_kept.lt sh_kept.obj rfl (Cs_size hk2) (by decide) (Nat.le_of_ble_eq_true rfl) ?_))
    exact g_iret hR dX7_keep_31 rfl (by unfold sp_keep; rw [if_neg (by omega)]; rw [List.length_append]; rfl) (by unfold sp_keep; rw [if_neg (by omega)]; exact h.setK hk2 hf2)
  · skip
    refine g_bipush hR dX7_keep_10 (by decide) ?_
    exact g_iret hR dX7_keep_12 rfl (by unfold sp_keep; rw [if_pos (by omega)]; skip) (by unfold sp_keep; rw [if_pos (by omega)]; exact h)
theorem K_back {E : f_E} {σ : f_Mem} {A : AS} (h : InvC σ A) (ok : ASOK A) : FZ E sC mX7_back 12 [.ref (f_ad E 0)] σ (sp_back A).1 (fun u => InvC u (sp_back A).2) := by
  obtain ⟨Pk, hk⟩ := h.k
  have hle := hk.le
  refine FZ.intro rfl (Nat.le_of_ble_eq_true rfl) (L0 := [some (.ref (f_ad E 0))]) rfl (fun G hR => ?_)
  refine g_aload_0 hR dX7_back_0 (g_getR hR dX7_back_1 flX7_51 (by decide) rfl rfl (g_callV0P hR dX7_back_4 mlX7_188 sh_kept.lt sh_kept.obj rfl (Cs_size hk) (by decide) (Nat.le_of_ble_eq_true rfl) (g_if_ne hR 13 dX7_back_7 (by decide) (by omega) (fun c7 => ?_) (fun c7 => ?_))))
  · skip
    refine g_aload_0 hR dX7_back_13 (g_getR hR dX7_back_14 flX7_51 (by decide) rfl rfl (g_aload_0 hR dX7_back_17 (g_getR hR dX7_back_18 flX7_40 (by decide) rfl rfl (g_callV1V hR dX7_back_21 mlX7_189 sh_kept.lt sh_kept.obj rfl (Cs_takeLast hk (M := (Ak A).getD ((Ak A).length - 1) M00) (by omega) (getD_at (by omega)) h.M.x (by omega)) (by decide) (Nat.le_of_ble_eq_true rfl) (fun u1 hu1 => ?_)))))
    obtain ⟨⟨P2, hk2⟩, hM2, hf2⟩ := hu1
    obtain ⟨Pp, hp⟩ := h.p
    obtain ⟨v9, hv1, hv2⟩ := Fr.split2 hf2
    have hp := (hp.fr hv1 (by omega)).fr hv2 (by omega)
    refine g_aload_0 hR dX7_back_24 (g_getR hR dX7_back_25 flX7_47 (by decide) rfl rfl (g_callV0V hR dX7_back_28 mlX7_120 sh_past.lt sh_past.obj rfl (Cs_clear hp) (by decide) (Nat.le_of_ble_eq_true rfl) (fun u2 hu2 => (g_aload_0 hR dX7_back_31 (g_getR hR dX7_back_32 flX7_51 (by decide) rfl rfl (g_callV0P hR dX7_back_35 mlX7_188 sh_kept.lt sh_kept.obj rfl (Cs_size (hk2.fr hu2.2 (by omega))) (by decide) (Nat.le_of_ble_eq_true rfl) ?_))))))
    exact g_iret hR dX7_back_38 rfl (by unfold sp_back; rw [if_neg (by omega)]; rw [List.length_dropLast]; omega) (by unfold sp_back; rw [if_neg (by omega)]; exact h.bk hk2 hM2 hf2 hu2.1 hu2.2)
  · skip
    refine g_bipush hR dX7_back_10 (by decide) ?_
    exact g_iret hR dX7_back_12 rfl (by unfold sp_back; rw [if_pos (by omega)]; skip) (by unfold sp_back; rw [if_pos (by omega)]; exact h)
theorem K_count {E : f_E} {σ : f_Mem} {A : AS} (h : InvC σ A) (ok : ASOK A) {w : Int} (hw : -2147483648 ≤ w ∧ w < 2147483648) : FZ E sC mX7_count 12 [.ref (f_ad E 0), .int (iI w)] σ (sp_count A w) (fun u => InvC u A) := by
  obtain ⟨Pk, hk⟩ := h.k
  obtain ⟨Pp, hp⟩ := h.p
  refine FZ.intro rfl (Nat.le_of_ble_eq_true rfl) (L0 := [some (.ref (f_ad E 0)), some (.int (iI w))]) rfl (fun G hR => ?_)
  rcases (show w = 0 ∨ w = 1 ∨ w = 2 ∨ w = 3 ∨ w = 4 ∨ w = 5 ∨ w = 6 ∨ w = 7 ∨ w = 8 ∨ w = 9 ∨ w = 10 ∨ w = 11 ∨ (w < 0 ∨ 11 < w) from by omega) with rfl | rfl | rfl | rfl | rfl | rfl | rfl | rfl | rfl | rfl | rfl | rfl | hout
  · skip
    refine g_iload_1 hR dX7_count_0 (g_tblIn hR 64 dX7_count_1 (by omega) (by omega) (by omega) rfl (by decide) (g_aload_0 hR dX7_count_64 (g_getR hR dX7_count_65 flX7_34 (by decide) rfl rfl (g_callV0P hR dX7_count_68 mlX7_116 sh_laid.lt sh_laid.obj rfl (C_kinds h.L) (by decide) (Nat.le_of_ble_eq_true rfl) ?_))))
    exact g_iret hR dX7_count_71 rfl rfl h
  · skip
    refine g_iload_1 hR dX7_count_0 (g_tblIn hR 72 dX7_count_1 (by omega) (by omega) (by omega) rfl (by decide) (g_aload_0 hR dX7_count_72 (g_getR hR dX7_count_73 flX7_34 (by decide) rfl rfl (g_getI hR _ dX7_count_76 flX7_167 sh_laid.lt sh_laid.obj rfl h.L.sort ?_))))
    exact g_iret hR dX7_count_79 rfl rfl h
  · skip
    refine g_iload_1 hR dX7_count_0 (g_tblIn hR 80 dX7_count_1 (by omega) (by omega) (by omega) rfl (by decide) (g_aload_0 hR dX7_count_80 (g_getR hR dX7_count_81 flX7_34 (by decide) rfl rfl (g_getI hR _ dX7_count_84 flX7_223 sh_laid.lt sh_laid.obj rfl h.L.first ?_))))
    exact g_iret hR dX7_count_87 rfl rfl h
  · skip
    refine g_iload_1 hR dX7_count_0 (g_tblIn hR 88 dX7_count_1 (by omega) (by omega) (by omega) rfl (by decide) (g_aload_0 hR dX7_count_88 (g_getR hR dX7_count_89 flX7_34 (by decide) rfl rfl (g_getR hR dX7_count_92 flX7_147 sh_laid.lt sh_laid.obj rfl (g_callV0P hR dX7_count_95 mlX7_113 sh_laid.row.lt sh_laid.row.obj rfl (Cn_size h.L.row) (by decide) (Nat.le_of_ble_eq_true rfl) ?_)))))
    exact g_iret hR dX7_count_98 rfl rfl h
  · skip
    refine g_iload_1 hR dX7_count_0 (g_tblIn hR 99 dX7_count_1 (by omega) (by omega) (by omega) rfl (by decide) (g_aload_0 hR dX7_count_99 (g_getR hR dX7_count_100 flX7_40 (by decide) rfl rfl (g_getR hR dX7_count_103 flX7_150 sh_memory.lt sh_memory.obj rfl (g_callV0P hR dX7_count_106 mlX7_113 sh_memory.words.lt sh_memory.words.obj rfl ((show FZ E sC mX3_size 0 [.ref (f_ad E 33)] σ ((AM A).1.length : Nat) (fun u => u = σ) from (List.length_reverse (as := (AM A).1)) ▸ Cn_size h.M.wd)) (by decide) (Nat.le_of_ble_eq_true rfl) ?_)))))
    exact g_iret hR dX7_count_109 rfl rfl h
  · skip
    refine g_iload_1 hR dX7_count_0 (g_tblIn hR 110 dX7_count_1 (by omega) (by omega) (by omega) rfl (by decide) (g_aload_0 hR dX7_count_110 (g_getR hR dX7_count_111 flX7_40 (by decide) rfl rfl (g_getI hR _ dX7_count_114 flX7_269 sh_memory.lt sh_memory.obj rfl h.M.days ?_))))
    exact g_iret hR dX7_count_117 rfl rfl h
  · skip
    refine g_iload_1 hR dX7_count_0 (g_tblIn hR 118 dX7_count_1 (by omega) (by omega) (by omega) rfl (by decide) (g_aload_0 hR dX7_count_118 (g_getR hR dX7_count_119 flX7_40 (by decide) rfl rfl (g_getI hR _ dX7_count_122 flX7_272 sh_memory.lt sh_memory.obj rfl h.M.lost ?_))))
    exact g_iret hR dX7_count_125 rfl rfl h
  · skip
    refine g_iload_1 hR dX7_count_0 (g_tblIn hR 126 dX7_count_1 (by omega) (by omega) (by omega) rfl (by decide) (g_aload_0 hR dX7_count_126 (g_getR hR dX7_count_127 flX7_40 (by decide) rfl rfl (g_getI hR _ dX7_count_130 flX7_274 sh_memory.lt sh_memory.obj rfl h.M.good ?_))))
    exact g_iret hR dX7_count_133 rfl rfl h
  · skip
    refine g_iload_1 hR dX7_count_0 (g_tblIn hR 134 dX7_count_1 (by omega) (by omega) (by omega) rfl (by decide) (g_aload_0 hR dX7_count_134 (g_getR hR dX7_count_135 flX7_54 (by decide) rfl rfl (g_callV0P hR dX7_count_138 mlX7_113 sh_seen.lt sh_seen.obj rfl (Cn_size h.z) (by decide) (Nat.le_of_ble_eq_true rfl) ?_))))
    exact g_iret hR dX7_count_141 rfl rfl h
  · skip
    refine g_iload_1 hR dX7_count_0 (g_tblIn hR 142 dX7_count_1 (by omega) (by omega) (by omega) rfl (by decide) (g_aload_0 hR dX7_count_142 (g_getR hR dX7_count_143 flX7_47 (by decide) rfl rfl (g_callV0P hR dX7_count_146 mlX7_188 sh_past.lt sh_past.obj rfl (Cs_size hp) (by decide) (Nat.le_of_ble_eq_true rfl) ?_))))
    exact g_iret hR dX7_count_149 rfl rfl h
  · skip
    refine g_iload_1 hR dX7_count_0 (g_tblIn hR 150 dX7_count_1 (by omega) (by omega) (by omega) rfl (by decide) (g_aload_0 hR dX7_count_150 (g_getR hR dX7_count_151 flX7_51 (by decide) rfl rfl (g_callV0P hR dX7_count_154 mlX7_188 sh_kept.lt sh_kept.obj rfl (Cs_size hk) (by decide) (Nat.le_of_ble_eq_true rfl) ?_))))
    exact g_iret hR dX7_count_157 rfl rfl h
  · skip
    refine g_iload_1 hR dX7_count_0 (g_tblIn hR 158 dX7_count_1 (by omega) (by omega) (by omega) rfl (by decide) (g_aload_0 hR dX7_count_158 (g_getR hR dX7_count_159 flX7_14 (by decide) rfl rfl (g_callV0P hR dX7_count_162 mlX7_113 sh_text.lt sh_text.obj rfl (Cn_size h.t) (by decide) (Nat.le_of_ble_eq_true rfl) ?_))))
    exact g_iret hR dX7_count_165 rfl rfl h
  · skip
    refine g_iload_1 hR dX7_count_0 (g_tblOut hR 166 dX7_count_1 (by omega) (by omega) (by decide) (g_iconst hR dX7_count_166 ?_))
    exact g_iret hR dX7_count_167 rfl (by unfold sp_count; rw [if_neg (by omega), if_neg (by omega), if_neg (by omega), if_neg (by omega), if_neg (by omega), if_neg (by omega), if_neg (by omega), if_neg (by omega), if_neg (by omega), if_neg (by omega), if_neg (by omega), if_neg (by omega)]) h
