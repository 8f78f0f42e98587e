
theorem MOK_00 (L : Les) : MOK L M00 := ⟨fun w h => absurd h List.not_mem_nil, Nat.zero_le _, rfl⟩
theorem A0_ok : ASOK A0 := ⟨⟨fun v h => absurd h List.not_mem_nil, Nat.zero_le _⟩, rdText_ok at_nt at_none, (by show 1 ≤ (Lm (rdText at_nt).2).length; decide +kernel), MOK_00 _, ⟨fun M h => absurd h List.not_mem_nil, Nat.zero_le _⟩, ⟨fun M h => absurd h List.not_mem_nil, Nat.zero_le _⟩, fun v h => absurd h List.not_mem_nil, Nat.zero_le _⟩
theorem ok_push {A : AS} (h : ASOK A) : (∀ M ∈ pushP A, MOK (AL A) M) ∧ (pushP A).length ≤ 8 := by
  obtain ⟨-, -, -, hM, ⟨g1, g2⟩, -⟩ := h
  unfold pushP
  refine ⟨fun M hm => ?_, ?_⟩
  · rcases List.mem_append.mp hm with q | q
    · split at q
      · exact g1 M q
      · exact g1 M (List.mem_of_mem_tail q)
    · rw [List.mem_singleton.mp q]; exact hM
  · rw [List.length_append]
    split
    · simp only [List.length_singleton]; omega
    · rw [List.length_tail]; simp only [List.length_singleton]; omega
theorem ok_wordM {L : Les} {M : Mms} (h : MOK L M) {w : Nat} (hw : w / 6 < (Lm L).length) : MOK L (wordM M w) := by
  refine ⟨fun x hx => ?_, ?_, h.2.2⟩
  · rcases List.mem_cons.mp (List.mem_of_mem_take hx) with q | q
    · rw [q]; exact hw
    · exact h.1 x q
  · show ((w :: M.1).take 40).length ≤ 40
    rw [List.length_take]; omega
theorem ok_dayM {L : Les} (ok : LesOK L) {M : Mms} (h : MOK L M) {k d : Nat} (hk : k < (Lm L).length) : MOK L (dayM L M k d) := by
  refine ⟨fun x hx => ?_, ?_, ?_⟩
  · have hx2 : x ∈ (if oc L k d = 0 then M.1 else ((6 * k + (Lr L).getD k 0) :: M.1).take 40) := hx
    split at hx2
    · exact h.1 x hx2
    · rcases List.mem_cons.mp (List.mem_of_mem_take hx2) with q | q
      · rw [q]; have := ok.r k; omega
      · exact h.1 x q
  · show (if oc L k d = 0 then M.1 else ((6 * k + (Lr L).getD k 0) :: M.1).take 40).length ≤ 40
    split
    · exact h.2.1
    · rw [List.length_take]; omega
  · show (M.2.1.set k _).length = 6
    rw [List.length_set]; exact h.2.2
theorem ok_row {A : AS} (h : ASOK A) {row z : List Nat} (h1 : row.length ≤ 10) (h2 : ∀ v ∈ row, v < (Lm (AL A)).length) (h3 : ∀ v ∈ z, v / 6 < row.length) (h4 : z.length ≤ 8) : ASOK (At A, rowL (AL A) row, AM A, Ap A, Ak A, z) := by
  obtain ⟨g1, ⟨l1, l2, l3, l4⟩, g3, g4, g5, g6, -⟩ := h
  exact ⟨g1, ⟨l1, l2, ⟨h1, h2⟩, l4⟩, g3, g4, g5, g6, h3, h4⟩
theorem ok_write {A : AS} (h : ASOK A) (a : Int) : ASOK (sp_write A a).2 := by
  unfold sp_write
  split
  · split
    · exact h
    · rename_i h1 h2
      obtain ⟨⟨g1, g2⟩, g⟩ := h
      refine ⟨⟨fun v hv => ?_, ?_⟩, g⟩
      · rcases List.mem_append.mp hv with q | q
        · exact g1 v q
        · rw [List.mem_singleton.mp q]; omega
      · show (At A ++ [a.toNat]).length ≤ 200
        rw [List.length_append]; simp only [List.length_singleton]; omega
  · exact h
theorem ok_wipe {A : AS} (h : ASOK A) : ASOK (sp_wipe A).2 := ⟨⟨fun v h => absurd h List.not_mem_nil, Nat.zero_le _⟩, h.2⟩
theorem ok_lay {A : AS} (h : ASOK A) : ASOK (sp_lay A).2 := by
  unfold sp_lay
  split
  · rename_i c
    exact ⟨h.1, rdText_ok _ c.1, Nat.one_le_iff_ne_zero.mpr c.2, MOK_00 _, ⟨fun M h => absurd h List.not_mem_nil, Nat.zero_le _⟩, ⟨fun M h => absurd h List.not_mem_nil, Nat.zero_le _⟩, fun v h => absurd h List.not_mem_nil, Nat.zero_le _⟩
  · exact h
theorem ok_hand {A : AS} (h : ASOK A) (a : Int) : ASOK (sp_hand A a).2 := by
  unfold sp_hand
  split
  · rename_i c
    have hk : a.toNat < (Lm (AL A)).length := by have hkk : AK A = (Lm (AL A)).length := rfl; omega
    obtain ⟨g1, g2, g3, g4, g5, g6, g7⟩ := id h
    exact ⟨g1, g2, g3, ok_dayM g2 g4 hk, ok_push h, g6, g7⟩
  · exact h
theorem ok_teach {A : AS} (h : ASOK A) (a d : Int) : ASOK (sp_teach A a d).2 := by
  unfold sp_teach
  split
  · rename_i c
    have hk : (6 * a.toNat + d.toNat) / 6 < (Lm (AL A)).length := by have hkk : AK A = (Lm (AL A)).length := rfl; omega
    obtain ⟨g1, g2, g3, g4, g5, g6, g7⟩ := id h
    exact ⟨g1, g2, g3, ok_wordM g4 hk, ok_push h, g6, g7⟩
  · exact h
theorem ok_getD {l : List Mms} {i : Nat} {M : Mms} (h : i < l.length) : l.getD i M ∈ l := by
  rw [List.getD_eq_getElem?_getD, List.getElem?_eq_getElem h]
  exact List.getElem_mem h
theorem ok_undo {A : AS} (h : ASOK A) : ASOK (sp_undo A).2 := by
  unfold sp_undo
  split
  · exact h
  · rename_i c
    obtain ⟨g1, g2, g3, g4, g5, g6, g7⟩ := h
    exact ⟨g1, g2, g3, g5.1 _ (ok_getD (by omega)), ⟨fun M hm => g5.1 M (by obtain ⟨i, hi⟩ := List.getElem?_of_mem hm; exact List.mem_of_getElem? (dropLast_get hi)), by show (Ap A).dropLast.length ≤ 8; rw [List.length_dropLast]; have := g5.2; omega⟩, g6, g7⟩
theorem ok_tell {A : AS} (h : ASOK A) (a : Int) : ASOK (sp_tell A a).2 := by
  unfold sp_tell
  split
  · split
    · exact h
    · rename_i c1 c2
      have hk : a.toNat < (Lm (AL A)).length := by have hkk : AK A = (Lm (AL A)).length := rfl; omega
      have hl := h.L.rl
      refine ok_row h (by rw [List.length_append]; simp only [List.length_singleton]; omega) (fun v hv => ?_) (fun v hv => ?_) h.2.2.2.2.2.2.2
      · rcases List.mem_append.mp hv with q | q
        · exact h.L.2.2.1.2 v q
        · rw [List.mem_singleton.mp q]; exact hk
      · have := h.2.2.2.2.2.2.1 v hv
        rw [List.length_append]; omega
  · exact h
theorem ok_noRow {A : AS} (h : ASOK A) : ASOK (sp_noRow A).2 := ok_row h (Nat.zero_le _) (fun v h => absurd h List.not_mem_nil) (fun v h => absurd h List.not_mem_nil) (Nat.zero_le _)
theorem ok_seen {A : AS} (h : ASOK A) (a d : Int) : ASOK (sp_seen A a d).2 := by
  unfold sp_seen
  split
  · split
    · exact h
    · rename_i c1 c2
      obtain ⟨g1, g2, g3, g4, g5, g6, g7, g8⟩ := h
      refine ⟨g1, g2, g3, g4, g5, g6, fun v hv => ?_, ?_⟩
      · rcases List.mem_append.mp hv with q | q
        · exact g7 v q
        · rw [List.mem_singleton.mp q]
          show (6 * a.toNat + d.toNat) / 6 < (Lrow (AL A)).length
          omega
      · show (Az A ++ [6 * a.toNat + d.toNat]).length ≤ 8
        rw [List.length_append]; simp only [List.length_singleton]; omega
  · exact h
theorem ok_forget {A : AS} (h : ASOK A) : ASOK (sp_forget A).2 := by
  obtain ⟨g1, g2, g3, g4, g5, g6, -⟩ := h
  exact ⟨g1, g2, g3, g4, g5, g6, fun v h => absurd h List.not_mem_nil, Nat.zero_le _⟩
theorem ok_keep {A : AS} (h : ASOK A) : ASOK (sp_keep A).2 := by
  unfold sp_keep
  split
  · exact h
  · rename_i c
    obtain ⟨g1, g2, g3, g4, g5, g6, g7⟩ := h
    refine ⟨g1, g2, g3, g4, g5, ⟨fun M hm => ?_, ?_⟩, g7⟩
    · rcases List.mem_append.mp hm with q | q
      · exact g6.1 M q
      · rw [List.mem_singleton.mp q]; exact g4
    · show (Ak A ++ [AM A]).length ≤ 2
      rw [List.length_append]; simp only [List.length_singleton]; have := g6.2; omega
theorem ok_back {A : AS} (h : ASOK A) : ASOK (sp_back A).2 := by
  unfold sp_back
  split
  · exact h
  · rename_i c
    obtain ⟨g1, g2, g3, g4, g5, g6, g7⟩ := h
    exact ⟨g1, g2, g3, g6.1 _ (ok_getD (by omega)), ⟨fun M h => absurd h List.not_mem_nil, Nat.zero_le _⟩, ⟨fun M hm => g6.1 M (by obtain ⟨i, hi⟩ := List.getElem?_of_mem hm; exact List.mem_of_getElem? (dropLast_get hi)), by show (Ak A).dropLast.length ≤ 2; rw [List.length_dropLast]; have := g6.2; omega⟩, g7⟩

