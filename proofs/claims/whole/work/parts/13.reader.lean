
/-! a text read: letters by their numbers -/
def rdN (t : List Nat) (p : Nat) : Option (Nat × Nat) :=
  if 48 ≤ t.getD p 0 ∧ t.getD p 0 ≤ 57 then
    if 48 ≤ t.getD (p + 1) 0 ∧ t.getD (p + 1) 0 ≤ 57 then some (10 * (t.getD p 0 - 48) + (t.getD (p + 1) 0 - 48), p + 2) else some (t.getD p 0 - 48, p + 1)
  else none
def rdNs (t : List Nat) : Nat → Nat → List Nat → Option (List Nat × Nat)
  | 0, p, acc => some (acc, p)
  | n + 1, p, acc => match rdN t p with
    | none => none
    | some q => if t.getD q.2 0 = (if n = 0 then 59 else 44) then rdNs t n (q.2 + 1) (acc ++ [q.1]) else none
def nbOf (c : Nat) : Nat := if c = 107 then 5 else if c = 108 ∨ c = 102 ∨ c = 101 then 1 else 0
def takeK (l : List Nat) (L : Les) : Option Les :=
  if (Lm L).length < 6 ∧ l.getD 0 0 ≤ 31 ∧ l.getD 1 0 ≤ 5 ∧ l.getD 2 0 ≤ 63 ∧ l.getD 3 0 ≤ 20 ∧ 1 ≤ l.getD 4 0 ∧ l.getD 4 0 ≤ 9 then
    some (Lm L ++ [l.getD 0 0], Lr L ++ [l.getD 1 0], Lp L ++ [l.getD 2 0], Lw L ++ [l.getD 3 0], Lc L ++ [l.getD 4 0], Lrow L, Lsort L, Lfirst L)
  else none
def takeE (v : Nat) (L : Les) : Option Les := if v < (Lm L).length ∧ (Lrow L).length < 10 then some (Lm L, Lr L, Lp L, Lw L, Lc L, Lrow L ++ [v], Lsort L, Lfirst L) else none
def takeIt (c : Nat) (l : List Nat) (L : Les) : Option Les :=
  if c = 107 then takeK l L
  else if c = 108 then (if l.getD 0 0 ≤ 3 then some (Lm L, Lr L, Lp L, Lw L, Lc L, Lrow L, l.getD 0 0, Lfirst L) else none)
  else if c = 102 then (if l.getD 0 0 ≤ 5 then some (Lm L, Lr L, Lp L, Lw L, Lc L, Lrow L, Lsort L, l.getD 0 0) else none)
  else if c = 101 then takeE (l.getD 0 0) L
  else none
def rdItem (t : List Nat) (p : Nat) (L : Les) : Option (Nat × Les) := match rdNs t (nbOf (t.getD p 0)) (p + 1) [] with
  | none => none
  | some q => (takeIt (t.getD p 0) q.1 L).map (fun L2 => (q.2, L2))
def rdAll (t : List Nat) : Nat → Nat → Les → Option Nat × Les
  | 0, _, L => (none, L)
  | n + 1, p, L => if p < t.length then match rdItem t p L with
      | none => (some p, L)
      | some q => rdAll t n q.1 q.2
    else (none, L)
def L00 : Les := ([], [], [], [], [], [], 0, 0)
def rdText (t : List Nat) : Option Nat × Les := rdAll t 200 0 L00
def oI : Option Nat → Int
  | none => -4
  | some q => q
def oB {α : Type} : Option α → Int
  | none => 0
  | some _ => 1
theorem L00_ok : LesOK L00 := by
  refine ⟨⟨by decide, rfl, rfl, rfl, rfl⟩, ⟨fun v h => ?_, fun v h => ?_, fun v h => ?_, fun v h => ?_, fun v h => ?_⟩, ⟨by decide, fun v h => ?_⟩, by decide, by decide⟩ <;> exact absurd h (List.not_mem_nil)
theorem takeK_ok {l : List Nat} {L L2 : Les} (h : takeK l L = some L2) (ok : LesOK L) : LesOK L2 := by
  unfold takeK at h
  split at h
  · rename_i hc
    cases h
    obtain ⟨⟨a1, a2, a3, a4, a5⟩, ⟨b1, b2, b3, b4, b5⟩, ⟨c1, c2⟩, d1, d2⟩ := ok
    refine ⟨⟨?_, ?_, ?_, ?_, ?_⟩, ⟨fun v hv => ?_, fun v hv => ?_, fun v hv => ?_, fun v hv => ?_, fun v hv => ?_⟩, ⟨c1, fun v hv => ?_⟩, d1, d2⟩
    · show (Lm L ++ [_]).length ≤ 6; rw [List.length_append, List.length_singleton]; omega
    · show (Lr L ++ [_]).length = (Lm L ++ [_]).length; rw [List.length_append, List.length_append, a2]; rfl
    · show (Lp L ++ [_]).length = (Lm L ++ [_]).length; rw [List.length_append, List.length_append, a3]; rfl
    · show (Lw L ++ [_]).length = (Lm L ++ [_]).length; rw [List.length_append, List.length_append, a4]; rfl
    · show (Lc L ++ [_]).length = (Lm L ++ [_]).length; rw [List.length_append, List.length_append, a5]; rfl
    · rcases List.mem_append.mp (show v ∈ Lm L ++ [_] from hv) with q | q
      · exact b1 v q
      · rw [List.mem_singleton.mp q]; omega
    · rcases List.mem_append.mp (show v ∈ Lr L ++ [_] from hv) with q | q
      · exact b2 v q
      · rw [List.mem_singleton.mp q]; omega
    · rcases List.mem_append.mp (show v ∈ Lp L ++ [_] from hv) with q | q
      · exact b3 v q
      · rw [List.mem_singleton.mp q]; omega
    · rcases List.mem_append.mp (show v ∈ Lw L ++ [_] from hv) with q | q
      · exact b4 v q
      · rw [List.mem_singleton.mp q]; omega
    · rcases List.mem_append.mp (show v ∈ Lc L ++ [_] from hv) with q | q
      · exact b5 v q
      · rw [List.mem_singleton.mp q]; omega
    · have := c2 v hv
      show v < (Lm L ++ [_]).length
      rw [List.length_append]; omega
  · cases h
theorem takeIt_ok {c : Nat} {l : List Nat} {L L2 : Les} (h : takeIt c l L = some L2) (ok : LesOK L) : LesOK L2 := by
  unfold takeIt at h
  split at h
  · exact takeK_ok h ok
  · obtain ⟨a, b, ⟨c1, c2⟩, d1, d2⟩ := ok
    split at h
    · split at h
      · cases h
        exact ⟨a, b, ⟨c1, c2⟩, by show l.getD 0 0 < 4; omega, d2⟩
      · cases h
    · split at h
      · split at h
        · cases h
          exact ⟨a, b, ⟨c1, c2⟩, d1, by show l.getD 0 0 < 6; omega⟩
        · cases h
      · split at h
        · unfold takeE at h
          split at h
          · rename_i hc
            cases h
            refine ⟨a, b, ⟨?_, fun v hv => ?_⟩, d1, d2⟩
            · show (Lrow L ++ [_]).length ≤ 10; rw [List.length_append, List.length_singleton]; omega
            · rcases List.mem_append.mp (show v ∈ Lrow L ++ [_] from hv) with q | q
              · exact c2 v q
              · rw [List.mem_singleton.mp q]; exact hc.1
          · cases h
        · cases h
theorem rdAll_ok (t : List Nat) : ∀ (n p : Nat) (L : Les), LesOK L → (rdAll t n p L).1 = none → LesOK (rdAll t n p L).2
  | 0, p, L, ok, _ => ok
  | n + 1, p, L, ok, h => by
    unfold rdAll at h ⊢
    split at h
    · rename_i hp
      rw [if_pos hp]
      cases hI : rdItem t p L with
      | none => rw [hI] at h; cases h
      | some q =>
        rw [hI] at h
        refine rdAll_ok t n q.1 q.2 ?_ h
        unfold rdItem at hI
        split at hI
        · cases hI
        · obtain ⟨L2, h1, h2⟩ := Option.map_eq_some_iff.mp hI
          rw [← h2]
          exact takeIt_ok h1 ok
    · rename_i hp
      rw [if_neg hp]; exact ok
theorem rdText_ok (t : List Nat) (h : (rdText t).1 = none) : LesOK (rdText t).2 := rdAll_ok t 200 0 L00 L00_ok h
theorem rdN_some {t : List Nat} {p v q : Nat} (h : rdN t p = some (v, q)) : v ≤ 99 ∧ p < q ∧ q ≤ p + 2 ∧ p < t.length := by
  unfold rdN at h
  split at h
  · have hp : p < t.length := by
      rcases Nat.lt_or_ge p t.length with q | q
      · exact q
      · rw [getD_out q] at *; omega
    split at h <;> (cases h; omega)
  · cases h
def TkR (σ u : f_Mem) (o : Option Les) : Prop := match o with
  | none => u = σ
  | some L2 => Lsn u 3 L2 ∧ Fr σ u 3 16
def RnR (σ u : f_Mem) (l : List Nat) (o : Option (Nat × Nat)) : Prop := match o with
  | none => u = σ
  | some q => Num u 17 5 (l ++ [q.1]) ∧ Fr σ u 17 19
def Tx (t : List Nat) : Prop := ∀ i, t.getD i 0 ≤ 126

theorem Cr_isFigure {E : f_E} {σ : f_Mem} {a : Int} (ha : -2147483648 ≤ a ∧ a < 2147483648) : FZ E sC mX5_isFigure 0 [.int (iI a)] σ (if 48 ≤ a ∧ a ≤ 57 then 1 else 0) (fun u => u = σ) := by
  refine FZ.intro rfl (Nat.le_of_ble_eq_true rfl) (L0 := [some (.int (iI a))]) rfl (fun G hR => ?_)
  refine g_iload_0 hR dX5_isFigure_0 (g_bipush hR dX5_isFigure_1 (by decide) (g_icmp_lt hR 16 dX5_isFigure_3 (by decide) (by omega) (by omega) (fun c3 => ?_) (fun c3 => ?_)))
  · skip
    refine g_iconst hR dX5_isFigure_16 ?_
    exact g_zret hR dX5_isFigure_17 rfl (by omega) (by rw [if_neg (by omega)]) rfl
  · skip
    refine g_iload_0 hR dX5_isFigure_6 (g_bipush hR dX5_isFigure_7 (by decide) (g_icmp_gt hR 16 dX5_isFigure_9 (by decide) (by omega) (by omega) (fun c9 => ?_) (fun c9 => ?_)))
    · skip
      refine g_iconst hR dX5_isFigure_16 ?_
      exact g_zret hR dX5_isFigure_17 rfl (by omega) (by rw [if_neg (by omega)]) rfl
    · skip
      refine g_iconst hR dX5_isFigure_12 (g_goto hR 17 dX5_isFigure_13 (by decide) ?_)
      exact g_zret hR dX5_isFigure_17 rfl (by omega) (by rw [if_pos (by omega)]) rfl
theorem Cr_nb {E : f_E} {σ : f_Mem} {c : Nat} (hc : c < 1000) : FZ E sC mX5_numbersBehind 0 [.int (iI c)] σ (nbOf c : Nat) (fun u => u = σ) := by
  refine FZ.intro rfl (Nat.le_of_ble_eq_true rfl) (L0 := [some (.int (iI c))]) rfl (fun G hR => ?_)
  rcases (show c = 107 ∨ c = 108 ∨ c = 102 ∨ c = 101 ∨ c = 103 ∨ c = 104 ∨ c = 105 ∨ c = 106 ∨ (c < 101 ∨ 108 < c) from by omega) with rfl | rfl | rfl | rfl | rfl | rfl | rfl | rfl | hc
  · skip
    refine g_iload_0 hR dX5_numbersBehind_0 (g_tblIn hR 48 dX5_numbersBehind_1 (by omega) (by omega) (by omega) rfl (by decide) (g_iconst hR dX5_numbersBehind_48 ?_))
    exact g_iret hR dX5_numbersBehind_49 rfl rfl rfl
  · skip
    refine g_iload_0 hR dX5_numbersBehind_0 (g_tblIn hR 50 dX5_numbersBehind_1 (by omega) (by omega) (by omega) rfl (by decide) (g_iconst hR dX5_numbersBehind_50 ?_))
    exact g_iret hR dX5_numbersBehind_51 rfl rfl rfl
  · skip
    refine g_iload_0 hR dX5_numbersBehind_0 (g_tblIn hR 50 dX5_numbersBehind_1 (by omega) (by omega) (by omega) rfl (by decide) (g_iconst hR dX5_numbersBehind_50 ?_))
    exact g_iret hR dX5_numbersBehind_51 rfl rfl rfl
  · skip
    refine g_iload_0 hR dX5_numbersBehind_0 (g_tblIn hR 50 dX5_numbersBehind_1 (by omega) (by omega) (by omega) rfl (by decide) (g_iconst hR dX5_numbersBehind_50 ?_))
    exact g_iret hR dX5_numbersBehind_51 rfl rfl rfl
  · skip
    refine g_iload_0 hR dX5_numbersBehind_0 (g_tblIn hR 52 dX5_numbersBehind_1 (by omega) (by omega) (by omega) rfl (by decide) (g_iconst hR dX5_numbersBehind_52 ?_))
    exact g_iret hR dX5_numbersBehind_53 rfl rfl rfl
  · skip
    refine g_iload_0 hR dX5_numbersBehind_0 (g_tblIn hR 52 dX5_numbersBehind_1 (by omega) (by omega) (by omega) rfl (by decide) (g_iconst hR dX5_numbersBehind_52 ?_))
    exact g_iret hR dX5_numbersBehind_53 rfl rfl rfl
  · skip
    refine g_iload_0 hR dX5_numbersBehind_0 (g_tblIn hR 52 dX5_numbersBehind_1 (by omega) (by omega) (by omega) rfl (by decide) (g_iconst hR dX5_numbersBehind_52 ?_))
    exact g_iret hR dX5_numbersBehind_53 rfl rfl rfl
  · skip
    refine g_iload_0 hR dX5_numbersBehind_0 (g_tblIn hR 52 dX5_numbersBehind_1 (by omega) (by omega) (by omega) rfl (by decide) (g_iconst hR dX5_numbersBehind_52 ?_))
    exact g_iret hR dX5_numbersBehind_53 rfl rfl rfl
  · skip
    refine g_iload_0 hR dX5_numbersBehind_0 (g_tblOut hR 52 dX5_numbersBehind_1 (by omega) (by omega) (by decide) (g_iconst hR dX5_numbersBehind_52 ?_))
    exact g_iret hR dX5_numbersBehind_53 rfl (by unfold nbOf; rw [if_neg (by omega), if_neg (by omega)]; rfl) rfl
theorem Cr_readNumber {E : f_E} {σ : f_Mem} {t l : List Nat} (ht : Num σ 1 200 t) (hx : Tx t) (hl : Num σ 17 5 l) (hll : l.length < 5) {p : Nat} (hp : p < 1000) {o : Option (Nat × Nat)} (ho : rdN t p = o) : FZ E sC mX5_readNumber 1 [.ref (f_ad E 16), .int (iI p)] σ (oI (o.map (fun q => q.2))) (fun u => RnR σ u l o) := by
  have x1 := hx p
  have x2 := hx (p + 1)
  refine FZ.intro rfl (Nat.le_of_ble_eq_true rfl) (L0 := [some (.ref (f_ad E 16)), some (.int (iI p)), none, none, none]) rfl (fun G hR => ?_)
  refine g_aload_0 hR dX5_readNumber_0 (g_getR hR dX5_readNumber_1 flX5_20 (by decide) rfl rfl (g_iload_1 hR dX5_readNumber_4 (g_callV1P hR dX5_readNumber_5 mlX5_40 sh_text.lt sh_text.obj rfl (Cn_at ht (i := p) (by omega)) (by decide) (Nat.le_of_ble_eq_true rfl) (g_callS1P hR dX5_readNumber_8 mlX5_54 (Cr_isFigure (by omega)) (by decide) (Nat.le_of_ble_eq_true rfl) (g_if_ne hR 17 dX5_readNumber_11 (by decide) (by split <;> omega) (fun c11 => ?_) (fun c11 => ?_))))))
  · skip
    refine g_aload_0 hR dX5_readNumber_17 (g_getR hR dX5_readNumber_18 flX5_20 (by decide) rfl rfl (g_iload_1 hR dX5_readNumber_21 (g_callV1P hR dX5_readNumber_22 mlX5_40 sh_text.lt sh_text.obj rfl (Cn_at ht (i := p) (by omega)) (by decide) (Nat.le_of_ble_eq_true rfl) (g_bipush hR dX5_readNumber_25 (by decide) (g_isub hR dX5_readNumber_27 (g_istore_2 hR dX5_readNumber_28 rfl (g_aload_0 hR dX5_readNumber_29 (g_getR hR dX5_readNumber_30 flX5_20 (by decide) rfl rfl (g_iload_1 hR dX5_readNumber_33 (g_iconst hR dX5_readNumber_34 (g_iadd hR dX5_readNumber_35 (g_callV1P hR dX5_readNumber_36 mlX5_40 sh_text.lt sh_text.obj rfl (Cn_at ht (i := p + 1) (by omega)) (by decide) (Nat.le_of_ble_eq_true rfl) (g_istore_3 hR dX5_readNumber_39 rfl (g_iload_3 hR dX5_readNumber_40 (g_callS1P hR dX5_readNumber_41 mlX5_54 (Cr_isFigure (by omega)) (by decide) (Nat.le_of_ble_eq_true rfl) (g_istore_4 hR dX5_readNumber_44 rfl (g_aload_0 hR dX5_readNumber_46 (g_getR hR dX5_readNumber_47 flX5_14 (by decide) rfl rfl (g_iload_4 hR dX5_readNumber_50 (g_if_eq hR 67 dX5_readNumber_52 (by decide) (by split <;> omega) (fun c52 => ?_) (fun c52 => ?_)))))))))))))))))))))
    · skip
      refine g_iload_2 hR dX5_readNumber_67 (g_callV1V hR dX5_readNumber_68 mlX5_57 sh_numbers.lt sh_numbers.obj rfl (show FV E sC mX3_add 0 [.ref (f_ad E 17), .int (iI ((t.getD p 0 : Nat) - 48 : Int))] σ _ from (show ((t.getD p 0 : Nat) - 48 : Int) = ((t.getD p 0 - 48 : Nat) : Int) from by omega) ▸ Cn_add hl (v := t.getD p 0 - 48) hll) (by decide) (Nat.le_of_ble_eq_true rfl) (fun u1 hu1 => (g_iload_4 hR dX5_readNumber_71 (g_if_eq hR 82 dX5_readNumber_73 (by decide) (by split <;> omega) (fun c73 => ?_) (fun c73 => ?_)))))
      · skip
        refine g_iload_1 hR dX5_readNumber_82 (g_iconst hR dX5_readNumber_83 (g_iadd hR dX5_readNumber_84 ?_))
        unfold rdN at ho
        rw [if_pos (by omega), if_neg (by omega)] at ho
        subst ho
        exact g_iret hR dX5_readNumber_85 rfl rfl hu1
      · skip
        exact absurd c52 (by omega)
    · skip
      refine g_bipush hR dX5_readNumber_55 (by decide) (g_iload_2 hR dX5_readNumber_57 (g_imul hR dX5_readNumber_58 (g_iload_3 hR dX5_readNumber_59 (g_iadd hR dX5_readNumber_60 (g_bipush hR dX5_readNumber_61 (by decide) (g_isub hR dX5_readNumber_63 (g_goto hR 68 dX5_readNumber_64 (by decide) (g_callV1V hR dX5_readNumber_68 mlX5_57 sh_numbers.lt sh_numbers.obj rfl (show FV E sC mX3_add 0 [.ref (f_ad E 17), .int (iI (10 * ((t.getD p 0 : Nat) - 48 : Int) + (t.getD (p + 1) 0 : Nat) - 48))] σ _ from (show (10 * ((t.getD p 0 : Nat) - 48 : Int) + (t.getD (p + 1) 0 : Nat) - 48) = ((10 * (t.getD p 0 - 48) + (t.getD (p + 1) 0 - 48) : Nat) : Int) from by omega) ▸ Cn_add hl (v := 10 * (t.getD p 0 - 48) + (t.getD (p + 1) 0 - 48)) hll) (by decide) (Nat.le_of_ble_eq_true rfl) (fun u1 hu1 => (g_iload_4 hR dX5_readNumber_71 (g_if_eq hR 82 dX5_readNumber_73 (by decide) (by split <;> omega) (fun c73 => ?_) (fun c73 => ?_))))))))))))
      · skip
        exact absurd c52 (by omega)
      · skip
        refine g_iload_1 hR dX5_readNumber_76 (g_iconst hR dX5_readNumber_77 (g_iadd hR dX5_readNumber_78 (g_goto hR 85 dX5_readNumber_79 (by decide) ?_)))
        unfold rdN at ho
        rw [if_pos (by omega), if_pos (by omega)] at ho
        subst ho
        exact g_iret hR dX5_readNumber_85 rfl rfl hu1
  · skip
    refine g_bipush hR dX5_readNumber_14 (by decide) ?_
    unfold rdN at ho
    rw [if_neg (by omega)] at ho
    subst ho
    exact g_iret hR dX5_readNumber_16 rfl rfl rfl
theorem Cr_takeKind {E : f_E} {σ : f_Mem} {l : List Nat} {L : Les} (hl : Num σ 17 5 l) (hL : Lsn σ 3 L) (ok : LesOK L) (h99 : ∀ i, l.getD i 0 ≤ 99) {o : Option Les} (ho : takeK l L = o) : FZ E sC mX5_takeKind 2 [.ref (f_ad E 16)] σ (oB o) (fun u => TkR σ u o) := by
  have a1 := ok.1.1
  have a2 := ok.1.2.1
  have a3 := ok.1.2.2.1
  have a4 := ok.1.2.2.2.1
  have a5 := ok.1.2.2.2.2
  have b0 := h99 0
  have b1 := h99 1
  have b2 := h99 2
  have b3 := h99 3
  have b4 := h99 4
  refine FZ.intro rfl (Nat.le_of_ble_eq_true rfl) (L0 := [some (.ref (f_ad E 16))]) rfl (fun G hR => ?_)
  refine g_aload_0 hR dX5_takeKind_0 (g_getR hR dX5_takeKind_1 flX5_23 (by decide) rfl rfl (g_getR hR dX5_takeKind_4 flX5_80 sh_told.lt sh_told.obj rfl (g_callV0P hR dX5_takeKind_7 mlX5_83 sh_told.marks.lt sh_told.marks.obj rfl (Cn_isFull hL.m) (by decide) (Nat.le_of_ble_eq_true rfl) (g_if_ne hR 95 dX5_takeKind_10 (by decide) (by split <;> omega) (fun c10 => ?_) (fun c10 => ?_)))))
  · skip
    refine g_iconst hR dX5_takeKind_95 ?_
    unfold takeK at ho
    rw [if_neg (by omega)] at ho
    subst ho
    exact g_zret hR dX5_takeKind_96 rfl (by omega) rfl rfl
  · skip
    refine g_aload_0 hR dX5_takeKind_13 (g_getR hR dX5_takeKind_14 flX5_14 (by decide) rfl rfl (g_iconst hR dX5_takeKind_17 (g_callV1P hR dX5_takeKind_18 mlX5_40 sh_numbers.lt sh_numbers.obj rfl (Cn_at hl (i := 0) (by omega)) (by decide) (Nat.le_of_ble_eq_true rfl) (g_iconst hR dX5_takeKind_21 (g_bipush hR dX5_takeKind_22 (by decide) (g_callS3P hR dX5_takeKind_24 mlX5_86 (C_isWithin (by omega) (by omega) (by omega)) (by decide) (Nat.le_of_ble_eq_true rfl) (g_if_eq hR 95 dX5_takeKind_27 (by decide) (by split <;> omega) (fun c27 => ?_) (fun c27 => ?_))))))))
    · skip
      refine g_iconst hR dX5_takeKind_95 ?_
      unfold takeK at ho
      rw [if_neg (by omega)] at ho
      subst ho
      exact g_zret hR dX5_takeKind_96 rfl (by omega) rfl rfl
    · skip
      refine g_aload_0 hR dX5_takeKind_30 (g_getR hR dX5_takeKind_31 flX5_14 (by decide) rfl rfl (g_iconst hR dX5_takeKind_34 (g_callV1P hR dX5_takeKind_35 mlX5_40 sh_numbers.lt sh_numbers.obj rfl (Cn_at hl (i := 1) (by omega)) (by decide) (Nat.le_of_ble_eq_true rfl) (g_callS1P hR dX5_takeKind_38 mlX5_74 (C_isDoing (by omega)) (by decide) (Nat.le_of_ble_eq_true rfl) (g_if_eq hR 95 dX5_takeKind_41 (by decide) (by split <;> omega) (fun c41 => ?_) (fun c41 => ?_))))))
      · skip
        refine g_iconst hR dX5_takeKind_95 ?_
        unfold takeK at ho
        rw [if_neg (by omega)] at ho
        subst ho
        exact g_zret hR dX5_takeKind_96 rfl (by omega) rfl rfl
      · skip
        refine g_aload_0 hR dX5_takeKind_44 (g_getR hR dX5_takeKind_45 flX5_14 (by decide) rfl rfl (g_iconst hR dX5_takeKind_48 (g_callV1P hR dX5_takeKind_49 mlX5_40 sh_numbers.lt sh_numbers.obj rfl (Cn_at hl (i := 2) (by omega)) (by decide) (Nat.le_of_ble_eq_true rfl) (g_iconst hR dX5_takeKind_52 (g_bipush hR dX5_takeKind_53 (by decide) (g_callS3P hR dX5_takeKind_55 mlX5_86 (C_isWithin (by omega) (by omega) (by omega)) (by decide) (Nat.le_of_ble_eq_true rfl) (g_if_eq hR 95 dX5_takeKind_58 (by decide) (by split <;> omega) (fun c58 => ?_) (fun c58 => ?_))))))))
        · skip
          refine g_iconst hR dX5_takeKind_95 ?_
          unfold takeK at ho
          rw [if_neg (by omega)] at ho
          subst ho
          exact g_zret hR dX5_takeKind_96 rfl (by omega) rfl rfl
        · skip
          refine g_aload_0 hR dX5_takeKind_61 (g_getR hR dX5_takeKind_62 flX5_14 (by decide) rfl rfl (g_iconst hR dX5_takeKind_65 (g_callV1P hR dX5_takeKind_66 mlX5_40 sh_numbers.lt sh_numbers.obj rfl (Cn_at hl (i := 3) (by omega)) (by decide) (Nat.le_of_ble_eq_true rfl) (g_iconst hR dX5_takeKind_69 (g_bipush hR dX5_takeKind_70 (by decide) (g_callS3P hR dX5_takeKind_72 mlX5_86 (C_isWithin (by omega) (by omega) (by omega)) (by decide) (Nat.le_of_ble_eq_true rfl) (g_if_eq hR 95 dX5_takeKind_75 (by decide) (by split <;> omega) (fun c75 => ?_) (fun c75 => ?_))))))))
          · skip
            refine g_iconst hR dX5_takeKind_95 ?_
            unfold takeK at ho
            rw [if_neg (by omega)] at ho
            subst ho
            exact g_zret hR dX5_takeKind_96 rfl (by omega) rfl rfl
          · skip
            refine g_aload_0 hR dX5_takeKind_78 (g_getR hR dX5_takeKind_79 flX5_14 (by decide) rfl rfl (g_iconst hR dX5_takeKind_82 (g_callV1P hR dX5_takeKind_83 mlX5_40 sh_numbers.lt sh_numbers.obj rfl (Cn_at hl (i := 4) (by omega)) (by decide) (Nat.le_of_ble_eq_true rfl) (g_iconst hR dX5_takeKind_86 (g_bipush hR dX5_takeKind_87 (by decide) (g_callS3P hR dX5_takeKind_89 mlX5_86 (C_isWithin (by omega) (by omega) (by omega)) (by decide) (Nat.le_of_ble_eq_true rfl) (g_if_ne hR 97 dX5_takeKind_92 (by decide) (by split <;> omega) (fun c92 => ?_) (fun c92 => ?_))))))))
            · skip
              refine g_aload_0 hR dX5_takeKind_97 (g_getR hR dX5_takeKind_98 flX5_23 (by decide) rfl rfl (g_getR hR dX5_takeKind_101 flX5_80 sh_told.lt sh_told.obj rfl (g_aload_0 hR dX5_takeKind_104 (g_getR hR dX5_takeKind_105 flX5_14 (by decide) rfl rfl (g_iconst hR dX5_takeKind_108 (g_callV1P hR dX5_takeKind_109 mlX5_40 sh_numbers.lt sh_numbers.obj rfl (Cn_at hl (i := 0) (by omega)) (by decide) (Nat.le_of_ble_eq_true rfl) (g_callV1V hR dX5_takeKind_112 mlX5_57 sh_told.marks.lt sh_told.marks.obj rfl (Cn_add hL.m (v := l.getD 0 0) (by omega)) (by decide) (Nat.le_of_ble_eq_true rfl) (fun u1 hu1 => ?_))))))))
              have g1 := hL.r.fr hu1.2 (by omega)
              have g2 := hL.p.fr hu1.2 (by omega)
              have g3 := hL.w.fr hu1.2 (by omega)
              have g4 := hL.c.fr hu1.2 (by omega)
              have e0 := hu1.1
              have hl1 := hl.fr hu1.2 (by omega)
              have er1 := hL.row.fr hu1.2 (by omega)
              have hF : Fr σ u1 4 14 := hu1.2.mono (by omega) (by omega)
              refine g_aload_0 hR dX5_takeKind_115 (g_getR hR dX5_takeKind_116 flX5_23 (by decide) rfl rfl (g_getR hR dX5_takeKind_119 flX5_90 sh_told.lt sh_told.obj rfl (g_aload_0 hR dX5_takeKind_122 (g_getR hR dX5_takeKind_123 flX5_14 (by decide) rfl rfl (g_iconst hR dX5_takeKind_126 (g_callV1P hR dX5_takeKind_127 mlX5_40 sh_numbers.lt sh_numbers.obj rfl (Cn_at hl1 (i := 1) (by omega)) (by decide) (Nat.le_of_ble_eq_true rfl) (g_callV1V hR dX5_takeKind_130 mlX5_57 sh_told.right.lt sh_told.right.obj rfl (Cn_add g1 (v := l.getD 1 0) (by omega)) (by decide) (Nat.le_of_ble_eq_true rfl) (fun u2 hu2 => ?_))))))))
              have g2 := g2.fr hu2.2 (by omega)
              have g3 := g3.fr hu2.2 (by omega)
              have g4 := g4.fr hu2.2 (by omega)
              have e0 := e0.fr hu2.2 (by omega)
              have e1 := hu2.1
              have hl2 := hl1.fr hu2.2 (by omega)
              have er2 := er1.fr hu2.2 (by omega)
              have hF := hF.tr (hu2.2.mono (by omega) (by omega))
              refine g_aload_0 hR dX5_takeKind_133 (g_getR hR dX5_takeKind_134 flX5_23 (by decide) rfl rfl (g_getR hR dX5_takeKind_137 flX5_93 sh_told.lt sh_told.obj rfl (g_aload_0 hR dX5_takeKind_140 (g_getR hR dX5_takeKind_141 flX5_14 (by decide) rfl rfl (g_iconst hR dX5_takeKind_144 (g_callV1P hR dX5_takeKind_145 mlX5_40 sh_numbers.lt sh_numbers.obj rfl (Cn_at hl2 (i := 2) (by omega)) (by decide) (Nat.le_of_ble_eq_true rfl) (g_callV1V hR dX5_takeKind_148 mlX5_57 sh_told.spoil.lt sh_told.spoil.obj rfl (Cn_add g2 (v := l.getD 2 0) (by omega)) (by decide) (Nat.le_of_ble_eq_true rfl) (fun u3 hu3 => ?_))))))))
              have g3 := g3.fr hu3.2 (by omega)
              have g4 := g4.fr hu3.2 (by omega)
              have e0 := e0.fr hu3.2 (by omega)
              have e1 := e1.fr hu3.2 (by omega)
              have e2 := hu3.1
              have hl3 := hl2.fr hu3.2 (by omega)
              have er3 := er2.fr hu3.2 (by omega)
              have hF := hF.tr (hu3.2.mono (by omega) (by omega))
              refine g_aload_0 hR dX5_takeKind_151 (g_getR hR dX5_takeKind_152 flX5_23 (by decide) rfl rfl (g_getR hR dX5_takeKind_155 flX5_96 sh_told.lt sh_told.obj rfl (g_aload_0 hR dX5_takeKind_158 (g_getR hR dX5_takeKind_159 flX5_14 (by decide) rfl rfl (g_iconst hR dX5_takeKind_162 (g_callV1P hR dX5_takeKind_163 mlX5_40 sh_numbers.lt sh_numbers.obj rfl (Cn_at hl3 (i := 3) (by omega)) (by decide) (Nat.le_of_ble_eq_true rfl) (g_callV1V hR dX5_takeKind_166 mlX5_57 sh_told.worth.lt sh_told.worth.obj rfl (Cn_add g3 (v := l.getD 3 0) (by omega)) (by decide) (Nat.le_of_ble_eq_true rfl) (fun u4 hu4 => ?_))))))))
              have g4 := g4.fr hu4.2 (by omega)
              have e0 := e0.fr hu4.2 (by omega)
              have e1 := e1.fr hu4.2 (by omega)
              have e2 := e2.fr hu4.2 (by omega)
              have e3 := hu4.1
              have hl4 := hl3.fr hu4.2 (by omega)
              have er4 := er3.fr hu4.2 (by omega)
              have hF := hF.tr (hu4.2.mono (by omega) (by omega))
              refine g_aload_0 hR dX5_takeKind_169 (g_getR hR dX5_takeKind_170 flX5_23 (by decide) rfl rfl (g_getR hR dX5_takeKind_173 flX5_99 sh_told.lt sh_told.obj rfl (g_aload_0 hR dX5_takeKind_176 (g_getR hR dX5_takeKind_177 flX5_14 (by decide) rfl rfl (g_iconst hR dX5_takeKind_180 (g_callV1P hR dX5_takeKind_181 mlX5_40 sh_numbers.lt sh_numbers.obj rfl (Cn_at hl4 (i := 4) (by omega)) (by decide) (Nat.le_of_ble_eq_true rfl) (g_callV1V hR dX5_takeKind_184 mlX5_57 sh_told.chance.lt sh_told.chance.obj rfl (Cn_add g4 (v := l.getD 4 0) (by omega)) (by decide) (Nat.le_of_ble_eq_true rfl) (fun u5 hu5 => ?_))))))))
              have e0 := e0.fr hu5.2 (by omega)
              have e1 := e1.fr hu5.2 (by omega)
              have e2 := e2.fr hu5.2 (by omega)
              have e3 := e3.fr hu5.2 (by omega)
              have e4 := hu5.1
              have hl5 := hl4.fr hu5.2 (by omega)
              have er5 := er4.fr hu5.2 (by omega)
              have hF := hF.tr (hu5.2.mono (by omega) (by omega))
              refine g_iconst hR dX5_takeKind_187 ?_
              unfold takeK at ho
              rw [if_pos (by omega)] at ho
              subst ho
              exact g_zret hR dX5_takeKind_188 rfl (by omega) rfl ⟨⟨sh_told, e0, e1, e2, e3, e4, er5, by rw [hF 3 (by omega)]; exact hL.sort, by rw [hF 3 (by omega)]; exact hL.first⟩, hF.mono (by omega) (by omega)⟩
            · skip
              refine g_iconst hR dX5_takeKind_95 ?_
              unfold takeK at ho
              rw [if_neg (by omega)] at ho
              subst ho
              exact g_zret hR dX5_takeKind_96 rfl (by omega) rfl rfl
theorem Cr_takeErrand {E : f_E} {σ : f_Mem} {L : Les} (hL : Lsn σ 3 L) {v : Nat} (hv : v ≤ 99) {o : Option Les} (ho : takeE v L = o) : FZ E sC mX5_takeErrand 2 [.ref (f_ad E 16), .int (iI v)] σ (oB o) (fun u => TkR σ u o) := by
  have hle := hL.m.le
  refine FZ.intro rfl (Nat.le_of_ble_eq_true rfl) (L0 := [some (.ref (f_ad E 16)), some (.int (iI v))]) rfl (fun G hR => ?_)
  refine g_aload_0 hR dX5_takeErrand_0 (g_getR hR dX5_takeErrand_1 flX5_23 (by decide) rfl rfl (g_iload_1 hR dX5_takeErrand_4 (g_callV1P hR dX5_takeErrand_5 mlX5_102 sh_told.lt sh_told.obj rfl (C_isKind hL (by omega)) (by decide) (Nat.le_of_ble_eq_true rfl) (g_if_eq hR 24 dX5_takeErrand_8 (by decide) (by split <;> omega) (fun c8 => ?_) (fun c8 => ?_)))))
  · skip
    refine g_iconst hR dX5_takeErrand_24 ?_
    unfold takeE at ho
    rw [if_neg (by omega)] at ho
    subst ho
    exact g_zret hR dX5_takeErrand_25 rfl (by omega) rfl rfl
  · skip
    refine g_aload_0 hR dX5_takeErrand_11 (g_getR hR dX5_takeErrand_12 flX5_23 (by decide) rfl rfl (g_getR hR dX5_takeErrand_15 flX5_105 sh_told.lt sh_told.obj rfl (g_callV0P hR dX5_takeErrand_18 mlX5_83 sh_told.row.lt sh_told.row.obj rfl (Cn_isFull hL.row) (by decide) (Nat.le_of_ble_eq_true rfl) (g_if_eq hR 26 dX5_takeErrand_21 (by decide) (by split <;> omega) (fun c21 => ?_) (fun c21 => ?_)))))
    · skip
      refine g_aload_0 hR dX5_takeErrand_26 (g_getR hR dX5_takeErrand_27 flX5_23 (by decide) rfl rfl (g_getR hR dX5_takeErrand_30 flX5_105 sh_told.lt sh_told.obj rfl (g_iload_1 hR dX5_takeErrand_33 (g_callV1V hR dX5_takeErrand_34 mlX5_57 sh_told.row.lt sh_told.row.obj rfl (Cn_add hL.row (v := v) (by omega)) (by decide) (Nat.le_of_ble_eq_true rfl) (fun u1 hu1 => (g_iconst hR dX5_takeErrand_37 ?_))))))
      unfold takeE at ho
      rw [if_pos (by omega)] at ho
      subst ho
      exact g_zret hR dX5_takeErrand_38 rfl (by omega) rfl ⟨⟨sh_told, hL.m.fr hu1.2 (by omega), hL.r.fr hu1.2 (by omega), hL.p.fr hu1.2 (by omega), hL.w.fr hu1.2 (by omega), hL.c.fr hu1.2 (by omega), hu1.1, by rw [hu1.2 3 (by omega)]; exact hL.sort, by rw [hu1.2 3 (by omega)]; exact hL.first⟩, hu1.2.mono (by omega) (by omega)⟩
    · skip
      refine g_iconst hR dX5_takeErrand_24 ?_
      unfold takeE at ho
      rw [if_neg (by omega)] at ho
      subst ho
      exact g_zret hR dX5_takeErrand_25 rfl (by omega) rfl rfl
