
def foldK {β : Type} (g : Nat → β → β) : Nat → β → β
  | 0, b => b
  | n + 1, b => g n (foldK g n b)
def decL (cl : List Nat) (k : Nat) : List Nat := cl.set k (cl.getD k 0 - 1)
def incL (cl : List Nat) (k : Nat) : List Nat := cl.set k (cl.getD k 0 + 1)
def ordF (L : Les) (s f : Nat) : Nat → List Nat → List Nat → List Nat → Nat → Nat × List Nat → Nat × List Nat
  | 0, _, p, _, lost, b => if lost < b.1 then (lost, p) else b
  | n + 1, cl, p, r, lost, b => foldK (fun k b => if 0 < cl.getD k 0 then ordF L s f n (decL cl k) (p ++ [k]) (dayR L s f k r) (lost + lo L k (does L s f k r)) b else b) (Lm L).length b
def ordG (L : Les) (s f n : Nat) (cl p r : List Nat) (lost k : Nat) (b : Nat × List Nat) : Nat × List Nat := if 0 < cl.getD k 0 then ordF L s f n (decL cl k) (p ++ [k]) (dayR L s f k r) (lost + lo L k (does L s f k r)) b else b
theorem ordF_succ (L : Les) (s f n : Nat) (cl p r : List Nat) (lost : Nat) (b : Nat × List Nat) : ordF L s f (n + 1) cl p r lost b = foldK (ordG L s f n cl p r lost) (Lm L).length b := rfl
theorem foldK_le {g : Nat → Nat × List Nat → Nat × List Nat} (h : ∀ k b, (g k b).1 ≤ b.1) : ∀ n b, (foldK g n b).1 ≤ b.1
  | 0, b => Nat.le_refl _
  | n + 1, b => Nat.le_trans (h n _) (foldK_le h n b)
theorem ordF_le (L : Les) (s f : Nat) : ∀ n cl p r lost b, (ordF L s f n cl p r lost b).1 ≤ b.1
  | 0, cl, p, r, lost, b => by
    simp only [ordF]; split
    · exact Nat.le_of_lt (by assumption)
    · exact Nat.le_refl _
  | n + 1, cl, p, r, lost, b => foldK_le (fun k b => by
      split
      · exact ordF_le L s f n _ _ _ _ b
      · exact Nat.le_refl _) _ b
theorem ordG_le (L : Les) (s f n : Nat) (cl p r : List Nat) (lost k : Nat) (b : Nat × List Nat) : (ordG L s f n cl p r lost k b).1 ≤ b.1 := by
  unfold ordG; split
  · exact ordF_le L s f n _ _ _ _ b
  · exact Nat.le_refl _
theorem foldK_id {g : Nat → Nat × List Nat → Nat × List Nat} {b : Nat × List Nat} (h : ∀ k, g k b = b) : ∀ n, foldK g n b = b
  | 0 => rfl
  | n + 1 => by simp only [foldK]; rw [foldK_id h n, h n]
theorem ordF_cut (L : Les) (s f : Nat) : ∀ n cl p r lost b, b.1 ≤ lost → ordF L s f n cl p r lost b = b
  | 0, cl, p, r, lost, b, h => by simp only [ordF]; rw [if_neg (by omega)]
  | n + 1, cl, p, r, lost, b, h => foldK_id (fun k => by
      split
      · exact ordF_cut L s f n _ _ _ _ b (by omega)
      · rfl) _
theorem ordF_junk (L : Les) (s f m : Nat) (l l' : List Nat) : ∀ n cl p r lost, ordF L s f n cl p r lost (m, l) = ordF L s f n cl p r lost (m, l') ∨ (ordF L s f n cl p r lost (m, l) = (m, l) ∧ ordF L s f n cl p r lost (m, l') = (m, l'))
  | 0, cl, p, r, lost => by
    simp only [ordF]
    by_cases q : lost < m
    · left; rw [if_pos q, if_pos q]
    · right; rw [if_neg q, if_neg q]; exact ⟨rfl, rfl⟩
  | n + 1, cl, p, r, lost => by
    rw [ordF_succ, ordF_succ]
    generalize (Lm L).length = K
    induction K with
    | zero => exact Or.inr ⟨rfl, rfl⟩
    | succ K ih =>
      simp only [foldK]
      rcases ih with q | ⟨q1, q2⟩
      · left; rw [q]
      · rw [q1, q2]
        unfold ordG
        split
        · exact ordF_junk L s f m l l' n _ _ _ _
        · exact Or.inr ⟨rfl, rfl⟩
theorem sum_set : ∀ (l : List Nat) (k v : Nat), k < l.length → (l.set k v).sum + l.getD k 0 = l.sum + v
  | [], k, v, h => absurd h (Nat.not_lt_zero _)
  | x :: t, 0, v, h => by simp [List.getD]; omega
  | x :: t, k + 1, v, h => by
    have h1 := sum_set t k v (by simpa using h)
    have e : (x :: t).getD (k + 1) 0 = t.getD k 0 := by simp [List.getD]
    rw [e]
    simp only [List.set_cons_succ, List.sum_cons]; omega
theorem getD_setN (l : List Nat) (k v j : Nat) (h : k < l.length) : (l.set k v).getD j 0 = if j = k then v else l.getD j 0 := by
  simp only [List.getD, List.getElem?_set]
  by_cases q : k = j
  · subst q; simp [h]
  · rw [if_neg q, if_neg (fun z => q z.symm)]
def tot (cl : List Nat) (K n : Nat) : Prop := cl.length = 6 ∧ cl.sum = n ∧ ∀ k, K ≤ k → cl.getD k 0 = 0
theorem tot.dec {cl : List Nat} {K n k : Nat} (h : tot cl K (n + 1)) (hk : 0 < cl.getD k 0) (hl : k < 6) : tot (decL cl k) K n := by
  obtain ⟨h1, h2, h3⟩ := h
  have q := sum_set cl k (cl.getD k 0 - 1) (by omega)
  refine ⟨by unfold decL; rw [List.length_set]; exact h1, by unfold decL; omega, fun j hj => ?_⟩
  unfold decL
  rw [getD_setN _ _ _ _ (by omega)]
  split
  · have := h3 j hj; have e : j = k := by assumption
    subst e; omega
  · exact h3 j hj
theorem sum_zero : ∀ l : List Nat, (∀ k, l.getD k 0 = 0) → l.sum = 0
  | [], _ => rfl
  | x :: t, h => by
    have h1 := h 0
    have h2 := sum_zero t (fun k => by have := h (k + 1); simpa [List.getD] using this)
    simp [List.getD] at h1
    simp only [List.sum_cons]; omega
theorem tot.some {cl : List Nat} {K n : Nat} (h : tot cl K (n + 1)) : ∃ k, k < K ∧ 0 < cl.getD k 0 := by
  apply Decidable.byContradiction
  intro q
  have h1 := sum_zero cl (fun k => by
    by_cases hk : k < K
    · apply Decidable.byContradiction
      intro z
      exact q ⟨k, hk, by omega⟩
    · exact h.2.2 k (by omega))
  have := h.2.1
  omega
theorem foldK_hit {g : Nat → Nat × List Nat → Nat × List Nat} {B k : Nat} (h : ∀ j b, (g j b).1 ≤ b.1) (hk : ∀ b, (g k b).1 ≤ B) : ∀ n, k < n → ∀ b, (foldK g n b).1 ≤ B
  | n + 1, hn, b => by
    simp only [foldK]
    by_cases q : k = n
    · subst q; exact hk _
    · exact Nat.le_trans (h n _) (foldK_hit h hk n (by omega) b)
theorem ordF_hit {L : Les} (ok : LesOK L) (s f : Nat) : ∀ n cl p r lost b, tot cl (Lm L).length n → (ordF L s f n cl p r lost b).1 ≤ lost + 20 * n
  | 0, cl, p, r, lost, b, _ => by
    simp only [ordF]; split
    · exact Nat.le_refl _
    · omega
  | n + 1, cl, p, r, lost, b, h => by
    obtain ⟨k, hk, hc⟩ := h.some
    have hK := ok.k
    rw [ordF_succ]
    refine foldK_hit (k := k) (fun j b => ordG_le L s f n cl p r lost j b) (fun b => ?_) _ hk b
    unfold ordG
    rw [if_pos hc]
    have h1 := ordF_hit ok s f n (decL cl k) (p ++ [k]) (dayR L s f k r) (lost + lo L k (does L s f k r)) b (h.dec hc (by omega))
    have h2 := lo_le ok k (does L s f k r)
    omega
def cntL (row : List Nat) : List Nat := row.foldl incL (List.replicate 6 0)
theorem incL_len (cl : List Nat) (k : Nat) : (incL cl k).length = cl.length := by unfold incL; rw [List.length_set]
theorem cntL_snoc (row : List Nat) (k : Nat) : cntL (row ++ [k]) = incL (cntL row) k := by unfold cntL; rw [List.foldl_append]; rfl
theorem tot.inc {cl : List Nat} {K n k : Nat} (h : tot cl K n) (hk : k < K) (hl : k < 6) : tot (incL cl k) K (n + 1) := by
  obtain ⟨h1, h2, h3⟩ := h
  have q := sum_set cl k (cl.getD k 0 + 1) (by omega)
  refine ⟨by rw [incL_len]; exact h1, by unfold incL; omega, fun j hj => ?_⟩
  unfold incL
  rw [getD_setN _ _ _ _ (by omega), if_neg (by omega)]
  exact h3 j hj
theorem tot.row {K : Nat} (hK : K ≤ 6) : ∀ (row : List Nat), (∀ k ∈ row, k < K) → ∀ cl n, tot cl K n → tot (row.foldl incL cl) K (n + row.length)
  | [], _, cl, n, h => h
  | k :: t, hr, cl, n, h => by
    have hk := hr k List.mem_cons_self
    have := tot.row hK t (fun j hj => hr j (List.mem_cons_of_mem _ hj)) (incL cl k) (n + 1) (h.inc hk (by omega))
    rw [show n + (k :: t).length = n + 1 + t.length from by simp only [List.length_cons]; omega]
    exact this
theorem tot_cnt {K : Nat} (hK : K ≤ 6) {row : List Nat} (h : ∀ k ∈ row, k < K) : tot (cntL row) K row.length := by
  have := tot.row hK row h (List.replicate 6 0) 0 ⟨by simp, by simp, fun k _ => by simp only [List.getD, List.getElem?_replicate]; split <;> rfl⟩
  rw [Nat.zero_add] at this
  exact this
def ordB (A : AS) : Nat × List Nat := ordF (AL A) (Lsort (AL A)) (Lfirst (AL A)) (Lrow (AL A)).length (cntL (Lrow (AL A))) [] (AM A).1 0 (1000000, [])
def sp_order (A : AS) (a : Int) : Int := if -1 ≤ a ∧ a < (Lrow (AL A)).length then (if 7 < (Lrow (AL A)).length then -2 else if a = -1 then ((ordB A).1 : Nat) else ((ordB A).2.getD a.toNat 0 : Nat)) else -1
theorem ordB_any {A : AS} (ok : ASOK A) (hl : (Lrow (AL A)).length ≤ 7) (l : List Nat) : ordF (AL A) (Lsort (AL A)) (Lfirst (AL A)) (Lrow (AL A)).length (cntL (Lrow (AL A))) [] (AM A).1 0 (1000000, l) = ordB A := by
  rcases ordF_junk (AL A) (Lsort (AL A)) (Lfirst (AL A)) 1000000 l [] (Lrow (AL A)).length (cntL (Lrow (AL A))) [] (AM A).1 0 with q | ⟨q1, q2⟩
  · exact q
  · have h := ordF_hit ok.L (Lsort (AL A)) (Lfirst (AL A)) (Lrow (AL A)).length (cntL (Lrow (AL A))) [] (AM A).1 0 (1000000, []) (tot_cnt ok.L.k (fun k hk => ok.L.2.2.1.2 k hk))
    rw [q2] at h
    exact absurd h (by show ¬ 1000000 ≤ _; omega)
/-! the class's search -/
def OrS (σ : f_Mem) (cl : List Nat) (j n : Nat) (p : List Nat) (b : Nat × List Nat) : Prop := Num σ 138 6 cl ∧ (∃ tr, Num σ 140 7 tr ∧ tr.length = j + n ∧ tr.take j = p) ∧ Num σ 142 7 b.2 ∧ σ 137 4 = iI (b.1 : Nat)
theorem OrS.fr {σ u : f_Mem} {cl : List Nat} {j n : Nat} {p : List Nat} {b : Nat × List Nat} {x y : Nat} (h : OrS σ cl j n p b) (hf : Fr σ u x y) (hy : y ≤ 137) : OrS u cl j n p b := by
  obtain ⟨h1, ⟨tr, h2, h3⟩, h4, h5⟩ := h
  exact ⟨h1.fr hf (by omega), ⟨tr, h2.fr hf (by omega), h3⟩, h4.fr hf (by omega), by rw [hf 137 (by omega)]; exact h5⟩
def TFc (E : f_E) (L : Les) (s f n : Nat) : Prop := ∀ (σ : f_Mem) (j : Nat) (r p : List Nat) (lost : Nat) (cl : List Nat) (b : Nat × List Nat), Lrn σ (97 + 5 * j) (lrnB j) s f r → Chn σ j → Lsn σ 19 L → WOK L r → OrS σ cl j n p b → cl.length = 6 → (∀ i, cl.getD i 0 ≤ 1000) → r.length + n < 800000 → j + n ≤ 7 → lost + 20 * n ≤ 1000 → b.1 ≤ 1000000 →
  FV E sC mX4_tryFrom (n + 7) [.ref (f_ad E 137), .ref (f_ad E (97 + 5 * j)), .int (iI j), .int (iI lost)] σ (fun u => OrS u cl j n p (ordF L s f n cl p r lost b) ∧ Fr σ u (97 + 5 * (j + 1)) 144 ∧ Chn u j)

theorem C_incLeft {E : f_E} {σ : f_Mem} {cl : List Nat} {k : Nat} (h : Num σ 138 6 cl) (hk : k < cl.length) : FV E sC mX4_addLeft 1 [.ref (f_ad E 137), .int (iI k), .int (iI 1)] σ (fun u => Num u 138 6 (incL cl k) ∧ Fr σ u 138 140) := by
  have hle := h.le
  refine FV.intro rfl (Nat.le_of_ble_eq_true rfl) (L0 := [some (.ref (f_ad E 137)), some (.int (iI k)), some (.int (iI 1))]) rfl (fun G hR => ?_)
  refine g_aload_0 hR dX4_addLeft_0 (g_getR hR dX4_addLeft_1 flX4_14 (by decide) rfl rfl (g_iload_1 hR dX4_addLeft_4 (g_aload_0 hR dX4_addLeft_5 (g_getR hR dX4_addLeft_6 flX4_14 (by decide) rfl rfl (g_iload_1 hR dX4_addLeft_9 (g_callV1P hR dX4_addLeft_10 mlX4_43 sh_left.lt sh_left.obj rfl (Cn_at h (i := k) (by omega)) (by decide) (Nat.le_of_ble_eq_true rfl) (g_iload_2 hR dX4_addLeft_13 (g_iadd hR dX4_addLeft_14 (g_callV2V hR dX4_addLeft_15 mlX4_59 sh_left.lt sh_left.obj rfl (Cn_put h (i := k) (v := cl.getD k 0 + 1) hk) (by decide) (Nat.le_of_ble_eq_true rfl) (fun u1 hu1 => ?_))))))))))
  exact g_vret hR dX4_addLeft_18 rfl hu1
theorem C_decLeft {E : f_E} {σ : f_Mem} {cl : List Nat} {k : Nat} (h : Num σ 138 6 cl) (hk : k < cl.length) (hp : 0 < cl.getD k 0) : FV E sC mX4_addLeft 1 [.ref (f_ad E 137), .int (iI k), .int (iI (-1))] σ (fun u => Num u 138 6 (decL cl k) ∧ Fr σ u 138 140) := by
  have hle := h.le
  refine FV.intro rfl (Nat.le_of_ble_eq_true rfl) (L0 := [some (.ref (f_ad E 137)), some (.int (iI k)), some (.int (iI (-1)))]) rfl (fun G hR => ?_)
  refine g_aload_0 hR dX4_addLeft_0 (g_getR hR dX4_addLeft_1 flX4_14 (by decide) rfl rfl (g_iload_1 hR dX4_addLeft_4 (g_aload_0 hR dX4_addLeft_5 (g_getR hR dX4_addLeft_6 flX4_14 (by decide) rfl rfl (g_iload_1 hR dX4_addLeft_9 (g_callV1P hR dX4_addLeft_10 mlX4_43 sh_left.lt sh_left.obj rfl (Cn_at h (i := k) (by omega)) (by decide) (Nat.le_of_ble_eq_true rfl) (g_iload_2 hR dX4_addLeft_13 (g_iadd hR dX4_addLeft_14 ?_))))))))
  rw [show ((cl.getD k 0 : Nat) : Int) + -1 = ((cl.getD k 0 - 1 : Nat) : Int) from by omega]
  refine g_callV2V hR dX4_addLeft_15 mlX4_59 sh_left.lt sh_left.obj rfl (Cn_put h (i := k) (v := cl.getD k 0 - 1) hk) (by decide) (Nat.le_of_ble_eq_true rfl) (fun u1 hu1 => ?_)
  exact g_vret hR dX4_addLeft_18 rfl hu1

theorem inc_dec {cl : List Nat} {k : Nat} (hk : k < cl.length) (hp : 0 < cl.getD k 0) : incL (decL cl k) k = cl := by
  apply List.ext_getElem?
  intro j
  unfold incL decL
  rw [getD_setN _ _ _ _ hk, if_pos rfl, List.set_set, List.getElem?_set]
  by_cases q : k = j
  · subst q
    rw [if_pos rfl, if_pos hk]
    simp only [List.getD, List.getElem?_eq_getElem hk, Option.getD_some] at hp ⊢
    congr 1; omega
  · rw [if_neg q]
theorem take_set_snoc {tr : List Nat} {j k : Nat} (h : j < tr.length) : (tr.set j k).take (j + 1) = tr.take j ++ [k] := by
  rw [take_snoc (by rw [List.length_set]; exact h), getD_setN _ _ _ _ h, if_pos rfl, List.take_set_of_le (Nat.le_refl _)]

theorem C_try0 {E : f_E} {σ : f_Mem} {L : Les} {s f : Nat} (ok : LesOK L) (hs : s < 4) (hf : f < 6) {j lost : Nat} {r p cl : List Nat} {b : Nat × List Nat} (h : Lrn σ (97 + 5 * j) (lrnB j) s f r) (hc : Chn σ j) (hL : Lsn σ 19 L) (hw : WOK L r) (ho : OrS σ cl j 0 p b) (hj : j ≤ 7) (hlo : lost ≤ 1000) (hb : b.1 ≤ 1000000) : FV E sC mX4_tryFrom (0 + 7) [.ref (f_ad E 137), .ref (f_ad E (97 + 5 * j)), .int (iI j), .int (iI lost)] σ (fun u => OrS u cl j (0) p (ordF L s f (0) cl p r lost b) ∧ Fr σ u (97 + 5 * (j + 1)) 144 ∧ Chn u j) := by
  obtain ⟨ho1, ⟨tr, ho2, ho3, ho4⟩, ho5, ho6⟩ := ho
  refine FV.intro rfl (Nat.le_of_ble_eq_true rfl) (L0 := [some (.ref (f_ad E 137)), some (.ref (f_ad E (97 + 5 * j))), some (.int (iI j)), some (.int (iI lost)), none, none]) rfl (fun G hR => ?_)
  refine g_iload_3 hR dX4_tryFrom_0 (g_aload_0 hR dX4_tryFrom_1 (g_getI hR _ dX4_tryFrom_2 flX4_51 (by decide) rfl rfl ho6 (g_icmp_lt hR 9 dX4_tryFrom_5 (by decide) (by omega) (by omega) (fun c5 => ?_) (fun c5 => ?_))))
  · skip
    refine g_iload_2 hR dX4_tryFrom_9 (g_aload_0 hR dX4_tryFrom_10 (g_getR hR dX4_tryFrom_11 flX4_20 (by decide) rfl rfl (g_callV0P hR dX4_tryFrom_14 mlX4_39 sh_tried.lt sh_tried.obj rfl (Cn_size ho2) (by decide) (Nat.le_of_ble_eq_true rfl) (g_icmp_lt hR 37 dX4_tryFrom_17 (by decide) (by omega) (by omega) (fun c17 => ?_) (fun c17 => ?_)))))
    · skip
      exact absurd c17 (by omega)
    · skip
      refine g_aload_0 hR dX4_tryFrom_20 (g_iload_3 hR dX4_tryFrom_21 (g_put hR dX4_tryFrom_22 fpX4_51 (by decide) rfl rfl ?_))
      have hfs : Fr σ (m_set σ 137 4 (iI lost)) 137 138 := Fr.set (by omega)
      have g2 := ho2.fr hfs (by omega)
      have g5 := ho5.fr hfs (by omega)
      refine g_aload_0 hR dX4_tryFrom_25 (g_getR hR dX4_tryFrom_26 flX4_23 (by decide) rfl rfl (g_aload_0 hR dX4_tryFrom_29 (g_getR hR dX4_tryFrom_30 flX4_20 (by decide) rfl rfl (g_callV1V hR dX4_tryFrom_33 mlX4_62 sh_best.lt sh_best.obj rfl (Cn_copyFrom g5 g2 (by omega)) (by decide) (Nat.le_of_ble_eq_true rfl) (fun u1 hu1 => ?_)))))
      have e : ordF L s f 0 cl p r lost b = (lost, p) := by simp only [ordF]; rw [if_pos (by omega)]
      have et : tr = p := by rw [← ho4, List.take_of_length_le (by omega)]
      have hF : Fr σ u1 137 144 := (hfs.mono (by omega) (by omega)).tr (hu1.2.mono (by omega) (by omega))
      exact g_vret hR dX4_tryFrom_36 rfl ⟨⟨(ho1.fr hfs (by omega)).fr hu1.2 (by omega), ⟨tr, g2.fr hu1.2 (by omega), ho3, ho4⟩, by rw [e]; exact et ▸ hu1.1, by rw [e, hu1.2 137 (by omega)]; exact m_set_at⟩, hF.mono (by omega) (by omega), fun i a b => (hc i a b).fr hF (by omega)⟩
  · skip
    exact g_vret hR dX4_tryFrom_8 rfl ⟨⟨ho1, ⟨tr, ho2, ho3, ho4⟩, by rw [ordF_cut _ _ _ _ _ _ _ _ _ (by omega)]; exact ho5, by rw [ordF_cut _ _ _ _ _ _ _ _ _ (by omega)]; exact ho6⟩, Fr.rf, hc⟩
theorem C_try1 {E : f_E} {σ : f_Mem} {L : Les} {s f : Nat} (ok : LesOK L) (hs : s < 4) (hf : f < 6) {n : Nat} (hT : TFc E L s f n) {j lost : Nat} {r p cl : List Nat} {b : Nat × List Nat} (h : Lrn σ (97 + 5 * j) (lrnB j) s f r) (hc : Chn σ j) (hL : Lsn σ 19 L) (hw : WOK L r) (ho : OrS σ cl j (n + 1) p b) (hcl : cl.length = 6) (hcb : ∀ i, cl.getD i 0 ≤ 1000) (hr : r.length + (n + 1) < 800000) (hj : j + (n + 1) ≤ 7) (hlo : lost + 20 * (n + 1) ≤ 1000) (hb : b.1 ≤ 1000000) : FV E sC mX4_tryFrom (n + 1 + 7) [.ref (f_ad E 137), .ref (f_ad E (97 + 5 * j)), .int (iI j), .int (iI lost)] σ (fun u => OrS u cl j (n + 1) p (ordF L s f (n + 1) cl p r lost b) ∧ Fr σ u (97 + 5 * (j + 1)) 144 ∧ Chn u j) := by
  have hK6 := ok.k
  obtain ⟨ho1, ⟨tr, ho2, ho3, ho4⟩, ho5, ho6⟩ := ho
  refine FV.intro rfl (Nat.le_of_ble_eq_true rfl) (L0 := [some (.ref (f_ad E 137)), some (.ref (f_ad E (97 + 5 * j))), some (.int (iI j)), some (.int (iI lost)), none, none]) rfl (fun G hR => ?_)
  refine g_iload_3 hR dX4_tryFrom_0 (g_aload_0 hR dX4_tryFrom_1 (g_getI hR _ dX4_tryFrom_2 flX4_51 (by decide) rfl rfl ho6 (g_icmp_lt hR 9 dX4_tryFrom_5 (by decide) (by omega) (by omega) (fun c5 => ?_) (fun c5 => ?_))))
  · skip
    refine g_iload_2 hR dX4_tryFrom_9 (g_aload_0 hR dX4_tryFrom_10 (g_getR hR dX4_tryFrom_11 flX4_20 (by decide) rfl rfl (g_callV0P hR dX4_tryFrom_14 mlX4_39 sh_tried.lt sh_tried.obj rfl (Cn_size ho2) (by omega) (Nat.le_of_ble_eq_true rfl) (g_icmp_lt hR 37 dX4_tryFrom_17 (by decide) (by omega) (by omega) (fun c17 => ?_) (fun c17 => ?_)))))
    · skip
      refine g_iconst hR dX4_tryFrom_37 (g_istore_4 hR dX4_tryFrom_38 rfl ?_)
      have loop : ∀ (mm : Nat) (k : Nat) (u : f_Mem), mm = (Lm L).length - k → k ≤ (Lm L).length → OrS u cl j (n + 1) p (foldK (ordG L s f n cl p r lost) k b) → Fr σ u (97 + 5 * (j + 1)) 144 → Chn u j → ∀ x5 : Option Value, G 40 [some (.ref (f_ad E 137)), some (.ref (f_ad E (97 + 5 * j))), some (.int (iI j)), some (.int (iI lost)), some (.int (iI k)), x5] [] u := by
        intro mm
        induction mm using Nat.strongRecOn with
        | ind mm ih =>
          intro k u hm hk hO hF hC x5
          have hN := h.fr hF (by omega)
          have hLu := hL.fr hF (by omega)
          have hfl : (foldK (ordG L s f n cl p r lost) k b).1 ≤ b.1 := foldK_le (fun k b => ordG_le L s f n cl p r lost k b) _ _
          obtain ⟨hq1, ⟨qr, hq2, hq3, hq4⟩, hq5, hq6⟩ := hO
          refine g_iload_4 hR dX4_tryFrom_40 (g_aload_0 hR dX4_tryFrom_42 (g_getR hR dX4_tryFrom_43 flX4_26 (by decide) rfl rfl (g_callV0P hR dX4_tryFrom_46 mlX4_66 sh_laid.lt sh_laid.obj rfl (C_kinds hLu) (by omega) (Nat.le_of_ble_eq_true rfl) (g_icmp_ge hR 136 dX4_tryFrom_49 (by decide) (by omega) (by omega) (fun c49 => ?_) (fun c49 => ?_)))))
          · skip
            have e : k = (Lm L).length := by omega
            subst e
            rw [← ordF_succ] at hq5 hq6
            exact g_vret hR dX4_tryFrom_136 rfl ⟨⟨hq1, ⟨qr, hq2, hq3, hq4⟩, hq5, hq6⟩, hF, hC⟩
          · skip
            refine g_aload_0 hR dX4_tryFrom_52 (g_getR hR dX4_tryFrom_53 flX4_14 (by decide) rfl rfl (g_iload_4 hR dX4_tryFrom_56 (g_callV1P hR dX4_tryFrom_58 mlX4_43 sh_left.lt sh_left.obj rfl (Cn_at hq1 (i := k) (by omega)) (by omega) (Nat.le_of_ble_eq_true rfl) (g_if_le hR 71 dX4_tryFrom_61 (by decide) (by have := hcb k; omega) (fun c61 => ?_) (fun c61 => ?_)))))
            · skip
              have hno : ¬ 0 < cl.getD k 0 := by omega
              refine g_null hR dX4_tryFrom_71 (g_astoreN_5 hR dX4_tryFrom_72 rfl (g_aloadN_5 hR dX4_tryFrom_74 (g_ifnullN hR 130 dX4_tryFrom_76 (by decide) (g_iinc_4 hR dX4_tryFrom_130 rfl (g_goto hR 40 dX4_tryFrom_133 (by decide) ?_)))))
              have eg : foldK (ordG L s f n cl p r lost) (k + 1) b = (foldK (ordG L s f n cl p r lost) k b) := by
                show ordG L s f n cl p r lost k _ = _
                unfold ordG; rw [if_neg hno]
              have h9 := ih ((Lm L).length - (k + 1)) (by omega) (k + 1) u rfl (by omega) (by rw [eg]; exact ⟨hq1, ⟨qr, hq2, hq3, hq4⟩, hq5, hq6⟩) hF hC
              exact h9 _
            · skip
              have hyes : 0 < cl.getD k 0 := by omega
              refine g_aload_1 hR dX4_tryFrom_64 (g_callV0R hR dX4_tryFrom_65 mlX4_69 h.sh.lt h.sh.obj rfl (C_step hN hC (by omega)) (by omega) (Nat.le_of_ble_eq_true rfl) (fun u1 hu1 => ?_))
              have hF1 : Fr u u1 (97 + 5 * (j + 1)) 137 := hu1.2.mono (by omega) (by omega)
              have a1 := hq1.fr hF1 (by omega)
              have a2 := hq2.fr hF1 (by omega)
              have a5 := hq5.fr hF1 (by omega)
              have a6 : u1 137 4 = _ := (congrFun (hF1 137 (by omega)) 4).trans hq6
              refine g_goto hR 72 dX4_tryFrom_68 (by decide) (g_astore_5 hR dX4_tryFrom_72 rfl (g_aload_5 hR dX4_tryFrom_74 (g_ifnull hR dX4_tryFrom_76 (g_aload_0 hR dX4_tryFrom_79 (g_iload_4 hR dX4_tryFrom_80 (g_iconst hR dX4_tryFrom_82 (g_callV2V hR dX4_tryFrom_83 mlX4_47 (by decide) rfl rfl (C_decLeft a1 (by omega) hyes) (by omega) (Nat.le_of_ble_eq_true rfl) (fun u2 hu2 => ?_))))))))
              have b2 := a2.fr hu2.2 (by omega)
              have b5 := a5.fr hu2.2 (by omega)
              have b6 : u2 137 4 = _ := (congrFun (hu2.2 137 (by omega)) 4).trans a6
              refine g_aload_0 hR dX4_tryFrom_86 (g_getR hR dX4_tryFrom_87 flX4_20 (by decide) rfl rfl (g_iload_2 hR dX4_tryFrom_90 (g_iload_4 hR dX4_tryFrom_91 (g_callV2V hR dX4_tryFrom_93 mlX4_59 sh_tried.lt sh_tried.obj rfl (Cn_put b2 (i := j) (v := k) (by omega)) (by omega) (Nat.le_of_ble_eq_true rfl) (fun u3 hu3 => ?_)))))
              have d1 := hu2.1.fr hu3.2 (by omega)
              have d5 := b5.fr hu3.2 (by omega)
              have d6 : u3 137 4 = _ := (congrFun (hu3.2 137 (by omega)) 4).trans b6
              have dN := (hu1.1.fr hu2.2 (by omega)).fr hu3.2 (by omega)
              have dL := ((hLu.fr hF1 (by omega)).fr hu2.2 (by omega)).fr hu3.2 (by omega)
              refine g_aload_0 hR dX4_tryFrom_96 (g_aload_5 hR dX4_tryFrom_97 (g_iload_2 hR dX4_tryFrom_99 (g_iconst hR dX4_tryFrom_100 (g_iadd hR dX4_tryFrom_101 (g_iload_3 hR dX4_tryFrom_102 (g_aload_0 hR dX4_tryFrom_103 (g_getR hR dX4_tryFrom_104 flX4_26 (by decide) rfl rfl (g_iload_4 hR dX4_tryFrom_107 (g_aload_5 hR dX4_tryFrom_109 (g_iload_4 hR dX4_tryFrom_111 (g_callV1Z hR dX4_tryFrom_113 mlX4_75 hu1.1.sh.lt hu1.1.sh.obj rfl (C_day dN dL ok hw hs hf (by omega) (by omega) (k := k) (by omega)) (by omega) (Nat.le_of_ble_eq_true rfl) (fun u4 hu4 => ?_))))))))))))
              have e1 := d1.fr hu4.2 (by omega)
              have e2 := hu3.1.fr hu4.2 (by omega)
              have e5 := d5.fr hu4.2 (by omega)
              have e6 : u4 137 4 = _ := (congrFun (hu4.2 137 (by omega)) 4).trans d6
              have eL := dL.fr hu4.2 (by omega)
              have hrl := dayR_len L s f k r
              have eO : OrS u4 (decL cl k) (j + 1) n (p ++ [k]) (foldK (ordG L s f n cl p r lost) k b) := ⟨e1, ⟨qr.set j k, e2, by rw [List.length_set]; omega, by rw [take_set_snoc (by omega), hq4]⟩, e5, e6⟩
              have eF : Fr u u4 (97 + 5 * (j + 1)) 144 := (hF1.mono (by omega) (by omega)).tr ((hu2.2.mono (by omega) (by omega)).tr ((hu3.2.mono (by omega) (by omega)).tr (hu4.2.mono (by omega) (by omega))))
              have eC : Chn u4 (j + 1) := fun i a b => ((((hC i (by omega) b).fr hu1.2 (by omega)).fr hu2.2 (by omega)).fr hu3.2 (by omega)).fr hu4.2 (by omega)
              have hlk := lo_le ok k (does L s f k r)
              refine g_callV2P hR dX4_tryFrom_116 mlX4_78 sh_laid.lt sh_laid.obj rfl (C_lost eL ok (by omega) (does_lt L s hf _ _)) (by omega) (Nat.le_of_ble_eq_true rfl) (g_iadd hR dX4_tryFrom_119 (g_callS4V hR dX4_tryFrom_120 mlX4_55 (hT u4 (j + 1) (dayR L s f k r) (p ++ [k]) (lost + lo L k (does L s f k r)) (decL cl k) (foldK (ordG L s f n cl p r lost) k b) hu4.1 eC eL (dayR_ok ok hw (by omega) s f) eO (by unfold decL; rw [List.length_set]; exact hcl) (fun i => by unfold decL; rw [getD_setN _ _ _ _ (by omega)]; have := hcb i; have := hcb k; split <;> omega) (by omega) (by omega) (by omega) (by omega)) (by omega) (Nat.le_of_ble_eq_true rfl) (fun u5 hu5 => ?_)))
              obtain ⟨⟨f1, ⟨fr5, f2, f3, f4⟩, f5, f6⟩, hF5, hC5⟩ := hu5
              have eg : foldK (ordG L s f n cl p r lost) (k + 1) b = ordF L s f n (decL cl k) (p ++ [k]) (dayR L s f k r) (lost + lo L k (does L s f k r)) (foldK (ordG L s f n cl p r lost) k b) := by
                show ordG L s f n cl p r lost k _ = _
                unfold ordG; rw [if_pos hyes]
              refine g_aload_0 hR dX4_tryFrom_123 (g_iload_4 hR dX4_tryFrom_124 (g_iconst hR dX4_tryFrom_126 (g_callV2V hR dX4_tryFrom_127 mlX4_47 (by decide) rfl rfl (C_incLeft f1 (by unfold decL; rw [List.length_set]; omega)) (by omega) (Nat.le_of_ble_eq_true rfl) (fun u6 hu6 => ?_))))
              have g1 := hu6.1
              rw [inc_dec (by omega) hyes] at g1
              have gO : OrS u6 cl j (n + 1) p (foldK (ordG L s f n cl p r lost) (k + 1) b) := ⟨g1, ⟨fr5, f2.fr hu6.2 (by omega), by omega, by have := congrArg (List.take j) f4; rw [List.take_take, Nat.min_eq_left (by omega), ← hq4, List.take_append_of_le_length (by rw [List.length_take]; omega), List.take_take, Nat.min_self] at this; rw [this, hq4]⟩, by rw [eg]; exact f5.fr hu6.2 (by omega), by rw [eg]; exact (congrFun (hu6.2 137 (by omega)) 4).trans f6⟩
              have gF : Fr σ u6 (97 + 5 * (j + 1)) 144 := hF.tr (eF.tr ((hF5.mono (by omega) (by omega)).tr (hu6.2.mono (by omega) (by omega))))
              have gC : Chn u6 j := fun i a b => by
                by_cases q : i = j + 1
                · subst q; exact ((hu4.1.x.fr hF5 (by omega)).fr hu6.2 (by omega))
                · exact (hC5 i (by omega) b).fr hu6.2 (by omega)
              refine g_iinc_4 hR dX4_tryFrom_130 rfl (g_goto hR 40 dX4_tryFrom_133 (by decide) ?_)
              have h9 := ih ((Lm L).length - (k + 1)) (by omega) (k + 1) u6 rfl (by omega) gO gF gC
              exact h9 _
      exact loop (Lm L).length 0 σ (by omega) (by omega) ⟨ho1, ⟨tr, ho2, ho3, ho4⟩, ho5, ho6⟩ Fr.rf hc _
    · skip
      exact absurd c17 (by omega)
  · skip
    exact g_vret hR dX4_tryFrom_8 rfl ⟨⟨ho1, ⟨tr, ho2, ho3, ho4⟩, by rw [ordF_cut _ _ _ _ _ _ _ _ _ (by omega)]; exact ho5, by rw [ordF_cut _ _ _ _ _ _ _ _ _ (by omega)]; exact ho6⟩, Fr.rf, hc⟩

theorem C_try (E : f_E) {L : Les} {s f : Nat} (ok : LesOK L) (hs : s < 4) (hf : f < 6) : ∀ n, TFc E L s f n
  | 0 => fun σ j r p lost cl b h hc hL hw ho hcl hcb hr hj hlo hb => C_try0 ok hs hf h hc hL hw ho (by omega) (by omega) hb
  | n + 1 => fun σ j r p lost cl b h hc hL hw ho hcl hcb hr hj hlo hb => C_try1 ok hs hf (C_try E ok hs hf n) h hc hL hw ho hcl hcb hr hj hlo hb

