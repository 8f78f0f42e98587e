
/-! what was heard, the newest first -/
def lastD (f : Nat) : List Nat → Nat
  | [] => f
  | w :: _ => w % 6
def befD (f : Nat) : List Nat → Nat
  | [] => f
  | [_] => f
  | _ :: w :: _ => w % 6
def latR : List Nat → Nat → Nat
  | [], _ => 0
  | w :: t, k => if w / 6 = k then t.length + 1 else latR t k
def doiR (f : Nat) : List Nat → Nat → Nat
  | [], _ => f
  | w :: t, k => if w / 6 = k then w % 6 else doiR f t k
def bst (off : Nat → Nat) (f b : Nat) : List Nat → Nat × Nat
  | [] => (f, b)
  | w :: t => if off (w / 6) ≤ (bst off f b t).2 then (w % 6, off (w / 6)) else bst off f b t
def doesC (L : Les) (s f k : Nat) (w : List Nat) : Nat :=
  if s = 0 then lastD f w else if s = 1 then befD f w else if s = 2 then (bst (fun j => ap L j k) f 99 w).1 else (bst (fun j => if j = k then 0 else 99) f 0 w).1
def does (L : Les) (s f k : Nat) (r : List Nat) : Nat := doesC L s f k (r.take 40)
theorem latR_le : ∀ (r : List Nat) (k : Nat), latR r k ≤ r.length
  | [], k => Nat.le_refl _
  | w :: t, k => by
    have := latR_le t k
    simp only [latR, List.length_cons]
    split <;> omega
theorem latR_char : ∀ (r : List Nat) (k : Nat), (latR r k = 0 ∧ ∀ q w : Nat, r[q]? = some w → w / 6 ≠ k) ∨ ∃ p w : Nat, r[p]? = some w ∧ w / 6 = k ∧ latR r k = r.length - p ∧ (∀ q v : Nat, r[q]? = some v → v / 6 = k → p ≤ q) ∧ ∀ f, doiR f r k = w % 6
  | [], k => Or.inl ⟨rfl, fun q w h => by simp at h⟩
  | x :: t, k => by
    by_cases hx : x / 6 = k
    · refine Or.inr ⟨0, x, rfl, hx, ?_, fun q v _ _ => Nat.zero_le _, fun f => ?_⟩
      · simp [latR, hx]
      · simp [doiR, hx]
    · rcases latR_char t k with ⟨h1, h2⟩ | ⟨p, w, h1, h2, h3, h4, h5⟩
      · refine Or.inl ⟨by simp [latR, hx, h1], fun q w h => ?_⟩
        cases q with
        | zero => simp at h; rw [← h]; exact hx
        | succ q => exact h2 q w (by simpa using h)
      · refine Or.inr ⟨p + 1, w, by simpa using h1, h2, ?_, fun q v hq hv => ?_, fun f => ?_⟩
        · simp only [latR, if_neg hx, List.length_cons]; omega
        · cases q with
          | zero => simp at hq; rw [← hq] at hv; exact absurd hv hx
          | succ q => exact Nat.succ_le_succ (h4 q v (by simpa using hq) hv)
        · simp only [doiR, if_neg hx]; exact h5 f
theorem bst_char (off : Nat → Nat) (f b : Nat) (ho : ∀ j, off j ≤ b) : ∀ w : List Nat, (w = [] ∧ bst off f b w = (f, b)) ∨ ∃ p v : Nat, w[p]? = some v ∧ bst off f b w = (v % 6, off (v / 6)) ∧ ∀ q u : Nat, w[q]? = some u → off (v / 6) < off (u / 6) ∨ (off (v / 6) = off (u / 6) ∧ p ≤ q)
  | [] => Or.inl ⟨rfl, rfl⟩
  | x :: t => by
    right
    rcases bst_char off f b ho t with ⟨h1, h2⟩ | ⟨p, v, h1, h2, h3⟩
    · subst h1
      refine ⟨0, x, rfl, ?_, fun q u hq => ?_⟩
      · exact if_pos (ho _)
      · cases q with
        | zero => simp at hq; rw [hq]; exact Or.inr ⟨rfl, Nat.le_refl _⟩
        | succ q => simp at hq
    · by_cases hx : off (x / 6) ≤ off (v / 6)
      · refine ⟨0, x, rfl, ?_, fun q u hq => ?_⟩
        · simp only [bst]; rw [h2, if_pos hx]
        · cases q with
          | zero => simp at hq; rw [hq]; exact Or.inr ⟨rfl, Nat.le_refl _⟩
          | succ q =>
            have := h3 q u (by simpa using hq)
            omega
      · refine ⟨p + 1, v, by simpa using h1, ?_, fun q u hq => ?_⟩
        · simp only [bst]; rw [h2, if_neg hx]
        · cases q with
          | zero => simp at hq; rw [← hq]; left; omega
          | succ q =>
            have := h3 q u (by simpa using hq)
            omega
theorem bst_same (f k : Nat) : ∀ w : List Nat, (bst (fun j => if j = k then 0 else 99) f 0 w).2 = 0 ∧ (bst (fun j => if j = k then 0 else 99) f 0 w).1 = doiR f w k
  | [] => ⟨rfl, rfl⟩
  | x :: t => by
    obtain ⟨h1, h2⟩ := bst_same f k t
    by_cases hx : x / 6 = k
    · simp only [bst, doiR, if_pos hx]
      rw [h1]; simp
    · simp only [bst, doiR, if_neg hx]
      rw [h1]; simp [h1, h2]
theorem doiR_take (f k : Nat) : ∀ (r : List Nat) (n : Nat), doiR f (r.take n) k = if 0 < latR r k ∧ r.length < latR r k + n then doiR f r k else f
  | [], n => by simp [doiR, latR]
  | x :: t, 0 => by
    have := latR_le (x :: t) k
    simp only [List.take_zero, doiR]
    rw [if_neg (by omega)]
  | x :: t, n + 1 => by
    by_cases hx : x / 6 = k
    · simp only [List.take_succ_cons, doiR, latR, if_pos hx, List.length_cons]
      rw [if_pos (by omega)]
    · simp only [List.take_succ_cons, doiR, latR, if_neg hx, List.length_cons]
      rw [doiR_take f k t n]
      by_cases h : 0 < latR t k ∧ t.length < latR t k + n
      · rw [if_pos h, if_pos (by omega)]
      · rw [if_neg h, if_neg (by omega)]
theorem lastD_take (f : Nat) (r : List Nat) : lastD f (r.take 40) = lastD f r := by cases r <;> rfl
theorem befD_take (f : Nat) (r : List Nat) : befD f (r.take 40) = befD f r := by
  match r with
  | [] => rfl
  | [_] => rfl
  | _ :: _ :: _ => rfl
theorem lastD_lt {f : Nat} (hf : f < 6) (r : List Nat) : lastD f r < 6 := by cases r <;> simp only [lastD] <;> omega
theorem befD_lt {f : Nat} (hf : f < 6) (r : List Nat) : befD f r < 6 := by
  match r with
  | [] => exact hf
  | [_] => exact hf
  | _ :: _ :: _ => simp only [befD]; omega
theorem doiR_lt {f : Nat} (hf : f < 6) (k : Nat) : ∀ r : List Nat, doiR f r k < 6
  | [] => hf
  | w :: t => by
    have := doiR_lt hf k t
    simp only [doiR]; split <;> omega
theorem bst_lt {off : Nat → Nat} {f b : Nat} (hf : f < 6) : ∀ w : List Nat, (bst off f b w).1 < 6
  | [] => hf
  | w :: t => by
    have := bst_lt (off := off) (b := b) hf t
    simp only [bst]; split
    · show w % 6 < 6; omega
    · exact this
theorem does_lt (L : Les) (s : Nat) {f : Nat} (hf : f < 6) (k : Nat) (r : List Nat) : does L s f k r < 6 := by
  unfold does doesC
  split
  · exact lastD_lt hf _
  · split
    · exact befD_lt hf _
    · split
      · exact bst_lt hf _
      · exact bst_lt hf _
/-- a day: what is heard then -/
def dayR (L : Les) (s f k : Nat) (r : List Nat) : List Nat := if oc L k (does L s f k r) = 0 then r else (6 * k + (Lr L).getD k 0) :: r
theorem dayR_len (L : Les) (s f k : Nat) (r : List Nat) : (dayR L s f k r).length ≤ r.length + 1 := by
  unfold dayR; split <;> simp
/-- words of kinds that there are -/
def WOK (L : Les) (r : List Nat) : Prop := ∀ w ∈ r, w / 6 < (Lm L).length
theorem WOK.cons {L : Les} {r : List Nat} (h : WOK L r) {k d : Nat} (hk : k < (Lm L).length) (hd : d < 6) : WOK L ((6 * k + d) :: r) := by
  intro w hw
  rcases List.mem_cons.mp hw with h1 | h1
  · rw [h1]; omega
  · exact h w h1
theorem dayR_ok {L : Les} (ok : LesOK L) {r : List Nat} (h : WOK L r) {k : Nat} (hk : k < (Lm L).length) (s f : Nat) : WOK L (dayR L s f k r) := by
  unfold dayR
  split
  · exact h
  · exact h.cons hk (ok.r k)
theorem map6_get (g : Nat → Nat) {k : Nat} (hk : k < 6) : ((List.range 6).map g).getD k 0 = g k := by
  have : k = 0 ∨ k = 1 ∨ k = 2 ∨ k = 3 ∨ k = 4 ∨ k = 5 := by omega
  rcases this with rfl | rfl | rfl | rfl | rfl | rfl <;> rfl
theorem map6_set (g h : Nat → Nat) {k v : Nat} (hk : k < 6) (h1 : h k = v) (h2 : ∀ j, j ≠ k → h j = g j) : ((List.range 6).map g).set k v = (List.range 6).map h := by
  have : k = 0 ∨ k = 1 ∨ k = 2 ∨ k = 3 ∨ k = 4 ∨ k = 5 := by omega
  have e : ∀ g : Nat → Nat, (List.range 6).map g = [g 0, g 1, g 2, g 3, g 4, g 5] := fun g => rfl
  rcases this with rfl | rfl | rfl | rfl | rfl | rfl <;> rw [e, e] <;> simp [h1, h2]
theorem map6_rep (v : Nat) : List.replicate 6 v = (List.range 6).map (fun _ => v) := rfl
/-- a learner in thought: his sort, his first, all that he heard -/
def Lrn (σ : f_Mem) (n : Nat) (b : Option Nat) (s f : Nat) (r : List Nat) : Prop := isLrn n b ∧ σ n 4 = iI s ∧ σ n 5 = iI f ∧ σ n 6 = iI r.length ∧ σ n 7 = iI (lastD f r) ∧ σ n 8 = iI (befD f r) ∧ Num σ (n + 1) 6 ((List.range 6).map (latR r)) ∧ Num σ (n + 3) 6 ((List.range 6).map (doiR f r))
section LP
variable {σ u : f_Mem} {n a b' : Nat} {b : Option Nat} {s f : Nat} {r : List Nat}
theorem Lrn.sh (h : Lrn σ n b s f r) : isLrn n b := h.1
theorem Lrn.sort (h : Lrn σ n b s f r) : σ n 4 = iI s := h.2.1
theorem Lrn.first (h : Lrn σ n b s f r) : σ n 5 = iI f := h.2.2.1
theorem Lrn.heard (h : Lrn σ n b s f r) : σ n 6 = iI r.length := h.2.2.2.1
theorem Lrn.last (h : Lrn σ n b s f r) : σ n 7 = iI (lastD f r) := h.2.2.2.2.1
theorem Lrn.bef (h : Lrn σ n b s f r) : σ n 8 = iI (befD f r) := h.2.2.2.2.2.1
theorem Lrn.lat (h : Lrn σ n b s f r) : Num σ (n + 1) 6 ((List.range 6).map (latR r)) := h.2.2.2.2.2.2.1
theorem Lrn.doi (h : Lrn σ n b s f r) : Num σ (n + 3) 6 ((List.range 6).map (doiR f r)) := h.2.2.2.2.2.2.2
theorem Lrn.fr (h : Lrn σ n b s f r) (hf : Fr σ u a b') (hd : n + 4 < a ∨ b' ≤ n) : Lrn u n b s f r :=
  ⟨h.sh, by rw [hf n (by omega)]; exact h.sort, by rw [hf n (by omega)]; exact h.first, by rw [hf n (by omega)]; exact h.heard, by rw [hf n (by omega)]; exact h.last, by rw [hf n (by omega)]; exact h.bef, h.lat.fr hf (by omega), h.doi.fr hf (by omega)⟩
end LP
/-- a learner's room, whatever is in it -/
def LrX (σ : f_Mem) (n : Nat) (b : Option Nat) : Prop := isLrn n b ∧ (∃ l, Num σ (n + 1) 6 l) ∧ ∃ l, Num σ (n + 3) 6 l
theorem LrX.sh {σ : f_Mem} {n : Nat} {b : Option Nat} (h : LrX σ n b) : isLrn n b := h.1
theorem Lrn.x {σ : f_Mem} {n : Nat} {b : Option Nat} {s f : Nat} {r : List Nat} (h : Lrn σ n b s f r) : LrX σ n b := ⟨h.sh, ⟨_, h.lat⟩, ⟨_, h.doi⟩⟩
theorem LrX.fr {σ u : f_Mem} {n a b' : Nat} {b : Option Nat} (h : LrX σ n b) (hf : Fr σ u a b') (hd : n + 4 < a ∨ b' ≤ n) : LrX u n b := by
  obtain ⟨h1, ⟨l1, h2⟩, ⟨l2, h3⟩⟩ := h
  exact ⟨h1, ⟨l1, h2.fr hf (by omega)⟩, ⟨l2, h3.fr hf (by omega)⟩⟩

theorem C_begin {E : f_E} {σ : f_Mem} {n : Nat} {b : Option Nat} {s f : Nat} (h : LrX σ n b) : FV E sC mX0_begin 2 [.ref (f_ad E n), .int (iI s), .int (iI f)] σ (fun u => Lrn u n b s f [] ∧ Fr σ u n (n + 5)) := by
  refine FV.intro rfl (Nat.le_of_ble_eq_true rfl) (L0 := [some (.ref (f_ad E n)), some (.int (iI s)), some (.int (iI f))]) rfl (fun G hR => ?_)
  refine g_aload_0 hR dX0_begin_0 (g_iload_1 hR dX0_begin_1 (g_put hR dX0_begin_2 fpX0_31 h.sh.lt h.sh.obj rfl (g_aload_0 hR dX0_begin_5 (g_iload_2 hR dX0_begin_6 (g_put hR dX0_begin_7 fpX0_35 h.sh.lt h.sh.obj rfl (g_aload_0 hR dX0_begin_10 (g_iconst hR dX0_begin_11 (g_put hR dX0_begin_12 fpX0_38 h.sh.lt h.sh.obj rfl (g_aload_0 hR dX0_begin_15 (g_iload_2 hR dX0_begin_16 (g_put hR dX0_begin_17 fpX0_41 h.sh.lt h.sh.obj rfl (g_aload_0 hR dX0_begin_20 (g_iload_2 hR dX0_begin_21 (g_put hR dX0_begin_22 fpX0_44 h.sh.lt h.sh.obj rfl ?_))))))))))))))
  obtain ⟨hsh, ⟨l1, h1⟩, ⟨l2, h2⟩⟩ := h
  generalize hσ5 : (m_set (m_set (m_set (m_set (m_set σ n 4 (iI s)) n 5 (iI f)) n 6 (iI 0)) n 7 (iI f)) n 8 (iI f)) = σ5
  have f4 : σ5 n 4 = iI s := by rw [← hσ5]; simp [m_set, m_row, upd]
  have f5 : σ5 n 5 = iI f := by rw [← hσ5]; simp [m_set, m_row, upd]
  have f6 : σ5 n 6 = iI 0 := by rw [← hσ5]; simp [m_set, m_row, upd]
  have f7 : σ5 n 7 = iI f := by rw [← hσ5]; simp [m_set, m_row, upd]
  have f8 : σ5 n 8 = iI f := by rw [← hσ5]; simp [m_set, m_row, upd]
  have hF : Fr σ σ5 n (n + 1) := by rw [← hσ5]; exact ((((Fr.set (by omega)).tr (Fr.set (by omega))).tr (Fr.set (by omega))).tr (Fr.set (by omega))).tr (Fr.set (by omega))
  have h1 := h1.fr hF (by omega)
  have h2 := h2.fr hF (by omega)
  refine g_aload_0 hR dX0_begin_25 (g_getR hR dX0_begin_26 flX0_14 hsh.lt hsh.obj rfl (g_bipush hR dX0_begin_29 (by decide) (g_iconst hR dX0_begin_31 (g_callV2V hR dX0_begin_32 mlX0_47 hsh.latest.lt hsh.latest.obj rfl (Cn_fill h1 (k := 6) (v := 0) (by omega)) (by decide) (Nat.le_of_ble_eq_true rfl) (fun u1 hu1 => ?_)))))
  have h2 := h2.fr hu1.2 (by omega)
  refine g_aload_0 hR dX0_begin_35 (g_getR hR dX0_begin_36 flX0_20 hsh.lt hsh.obj rfl (g_bipush hR dX0_begin_39 (by decide) (g_iload_2 hR dX0_begin_41 (g_callV2V hR dX0_begin_42 mlX0_47 hsh.doing.lt hsh.doing.obj rfl (Cn_fill h2 (k := 6) (v := f) (by omega)) (by decide) (Nat.le_of_ble_eq_true rfl) (fun u2 hu2 => ?_)))))
  have hn1 := hu1.2 n (by omega)
  have hn2 := hu2.2 n (by omega)
  have k1 := hu1.1.fr hu2.2 (by omega)
  exact g_vret hR dX0_begin_45 rfl ⟨⟨hsh, by rw [hn2, hn1]; exact f4, by rw [hn2, hn1]; exact f5, by rw [hn2, hn1]; exact f6, by rw [hn2, hn1]; exact f7, by rw [hn2, hn1]; exact f8, k1, hu2.1⟩, (hF.mono (by omega) (by omega)).tr ((hu1.2.mono (by omega) (by omega)).tr (hu2.2.mono (by omega) (by omega)))⟩
theorem C_hear {E : f_E} {σ : f_Mem} {n : Nat} {b : Option Nat} {s f : Nat} {r : List Nat} (h : Lrn σ n b s f r) {k d : Nat} (hk : k < 6) (hd : d < 6) : FV E sC mX0_hear 1 [.ref (f_ad E n), .int (iI k), .int (iI d)] σ (fun u => Lrn u n b s f ((6 * k + d) :: r) ∧ Fr σ u n (n + 5)) := by
  refine FV.intro rfl (Nat.le_of_ble_eq_true rfl) (L0 := [some (.ref (f_ad E n)), some (.int (iI k)), some (.int (iI d))]) rfl (fun G hR => ?_)
  refine g_aload_0 hR dX0_hear_0 (g_dup hR dX0_hear_1 rfl (g_getI hR _ dX0_hear_2 flX0_38 h.sh.lt h.sh.obj rfl h.heard (g_iconst hR dX0_hear_5 (g_iadd hR dX0_hear_6 (g_put hR dX0_hear_7 fpX0_38 h.sh.lt h.sh.obj rfl (g_aload_0 hR dX0_hear_10 (g_aload_0 hR dX0_hear_11 (g_getI hR _ dX0_hear_12 flX0_41 h.sh.lt h.sh.obj rfl (by rw [m_set_j (by omega)]; exact h.last) (g_put hR dX0_hear_15 fpX0_44 h.sh.lt h.sh.obj rfl (g_aload_0 hR dX0_hear_18 (g_iload_2 hR dX0_hear_19 (g_put hR dX0_hear_20 fpX0_41 h.sh.lt h.sh.obj rfl ?_))))))))))))
  generalize hσ5 : (m_set (m_set (m_set σ n 6 (iI ((r.length : Int) + 1))) n 8 (iI (lastD f r))) n 7 (iI d)) = σ5
  have f4 : σ5 n 4 = iI s := by rw [← hσ5]; simp [m_set, m_row, upd]; exact h.sort
  have f5 : σ5 n 5 = iI f := by rw [← hσ5]; simp [m_set, m_row, upd]; exact h.first
  have f6 : σ5 n 6 = iI ((r.length : Int) + 1) := by rw [← hσ5]; simp [m_set, m_row, upd]
  have f7 : σ5 n 7 = iI d := by rw [← hσ5]; simp [m_set, m_row, upd]
  have f8 : σ5 n 8 = iI (lastD f r) := by rw [← hσ5]; simp [m_set, m_row, upd]
  have hF : Fr σ σ5 n (n + 1) := by rw [← hσ5]; exact ((Fr.set (by omega)).tr (Fr.set (by omega))).tr (Fr.set (by omega))
  have h1 := h.lat.fr hF (by omega)
  have h2 := h.doi.fr hF (by omega)
  refine g_aload_0 hR dX0_hear_23 (g_getR hR dX0_hear_24 flX0_14 h.sh.lt h.sh.obj rfl (g_iload_1 hR dX0_hear_27 (g_aload_0 hR dX0_hear_28 (g_getI hR _ dX0_hear_29 flX0_38 h.sh.lt h.sh.obj rfl f6 (g_callV2V hR dX0_hear_32 mlX0_51 h.sh.latest.lt h.sh.latest.obj rfl (Cn_put h1 (i := k) (v := r.length + 1) (by simp; omega)) (by decide) (Nat.le_of_ble_eq_true rfl) (fun u1 hu1 => ?_))))))
  have h2 := h2.fr hu1.2 (by omega)
  refine g_aload_0 hR dX0_hear_35 (g_getR hR dX0_hear_36 flX0_20 h.sh.lt h.sh.obj rfl (g_iload_1 hR dX0_hear_39 (g_iload_2 hR dX0_hear_40 (g_callV2V hR dX0_hear_41 mlX0_51 h.sh.doing.lt h.sh.doing.obj rfl (Cn_put h2 (i := k) (v := d) (by simp; omega)) (by decide) (Nat.le_of_ble_eq_true rfl) (fun u2 hu2 => ?_)))))
  have hn1 := hu1.2 n (by omega)
  have hn2 := hu2.2 n (by omega)
  have k1 := hu1.1.fr hu2.2 (by omega)
  have k2 := hu2.1
  have e1 : (6 * k + d) / 6 = k := by omega
  have e2 : (6 * k + d) % 6 = d := by omega
  rw [map6_set (latR r) (latR ((6 * k + d) :: r)) hk (by simp [latR, e1]) (fun j hj => by simp only [latR, e1]; rw [if_neg (Ne.symm hj)])] at k1
  rw [map6_set (doiR f r) (doiR f ((6 * k + d) :: r)) hk (by simp [doiR, e1, e2]) (fun j hj => by simp only [doiR, e1]; rw [if_neg (Ne.symm hj)])] at k2
  exact g_vret hR dX0_hear_44 rfl ⟨⟨h.sh, by rw [hn2, hn1]; exact f4, by rw [hn2, hn1]; exact f5, by rw [hn2, hn1]; exact f6, by rw [hn2, hn1, f7]; simp only [lastD, e2], by rw [hn2, hn1, f8]; cases r <;> rfl, k1, k2⟩, (hF.mono (by omega) (by omega)).tr ((hu1.2.mono (by omega) (by omega)).tr (hu2.2.mono (by omega) (by omega)))⟩
theorem C_hearAll {E : f_E} {σ : f_Mem} {n : Nat} {b : Option Nat} {s f : Nat} {r : List Nat} (h : Lrn σ n b s f r) {m : Nat} {l : List Nat} (hl0 : Num σ m 40 l) (hd : m + 1 < n ∨ n + 5 ≤ m) (hl6 : ∀ w ∈ l, w < 36) : FV E sC mX0_hearAll 2 [.ref (f_ad E n), .ref (f_ad E m)] σ (fun u => Lrn u n b s f (l.reverse ++ r) ∧ Fr σ u n (n + 5)) := by
  have hlt := hl0.le
  refine FV.intro rfl (Nat.le_of_ble_eq_true rfl) (L0 := [some (.ref (f_ad E n)), some (.ref (f_ad E m)), none]) rfl (fun G hR => ?_)
  refine g_iconst hR dX0_hearAll_0 (g_istore_2 hR dX0_hearAll_1 rfl ?_)
  have loop : ∀ (mm j : Nat) (u : f_Mem), mm = l.length - j → j ≤ l.length → Lrn u n b s f ((l.take j).reverse ++ r) → Fr σ u n (n + 5) → G 2 [some (.ref (f_ad E n)), some (.ref (f_ad E m)), some (.int (iI (j)))] [] u := by
    intro mm
    induction mm using Nat.strongRecOn with
    | ind mm ih =>
      intro j u hm hj hN hF
      have hl := hl0.fr hF hd
      refine g_iload_2 hR dX0_hearAll_2 (g_aload_1 hR dX0_hearAll_3 (g_callV0P hR dX0_hearAll_4 mlX0_54 hl.sh.lt hl.sh.obj rfl (Cn_size hl) (by decide) (Nat.le_of_ble_eq_true rfl) (g_icmp_ge hR 36 dX0_hearAll_7 (by decide) (by omega) (by omega) (fun c7 => ?_) (fun c7 => ?_))))
      · skip
        have e : j = l.length := by omega
        subst e
        rw [List.take_length] at hN
        exact g_vret hR dX0_hearAll_36 rfl ⟨hN, hF⟩
      · skip
        have hw := hl6 _ (getD_mem (show j < l.length from by omega))
        refine g_aload_0 hR dX0_hearAll_10 (g_aload_1 hR dX0_hearAll_11 (g_iload_2 hR dX0_hearAll_12 (g_callV1P hR dX0_hearAll_13 mlX0_58 hl.sh.lt hl.sh.obj rfl (Cn_at hl (by omega)) (by decide) (Nat.le_of_ble_eq_true rfl) (g_bipush hR dX0_hearAll_16 (by decide) (g_idiv hR dX0_hearAll_18 (by omega) (by omega) (g_aload_1 hR dX0_hearAll_19 (g_iload_2 hR dX0_hearAll_20 (g_callV1P hR dX0_hearAll_21 mlX0_58 hl.sh.lt hl.sh.obj rfl (Cn_at hl (by omega)) (by decide) (Nat.le_of_ble_eq_true rfl) (g_bipush hR dX0_hearAll_24 (by decide) (g_irem hR dX0_hearAll_26 (by omega) (by omega) (g_callV2V hR dX0_hearAll_27 mlX0_62 hN.sh.lt hN.sh.obj rfl (show FV E sC mX0_hear 1 [.ref (f_ad E n), .int (iI ((l.getD j 0 / 6 : Nat) : Int)), .int (iI ((l.getD j 0 % 6 : Nat) : Int))] u _ from C_hear hN (k := l.getD j 0 / 6) (d := l.getD j 0 % 6) (by omega) (by omega)) (by decide) (Nat.le_of_ble_eq_true rfl) (fun u1 hu1 => (g_iinc_2 hR dX0_hearAll_30 rfl (g_goto hR 2 dX0_hearAll_33 (by decide) ?_))))))))))))))
        refine ih (l.length - (j + 1)) (by omega) (j + 1) u1 rfl (by omega) ?_ (hF.tr hu1.2)
        have e : (l.take (j + 1)).reverse ++ r = (6 * (l.getD j 0 / 6) + l.getD j 0 % 6) :: ((l.take j).reverse ++ r) := by
          rw [List.take_add_one, getD_some (show j < l.length from by omega)]
          simp
          omega
        rw [e]; exact hu1.1
  exact loop l.length 0 σ (by omega) (by omega) h Fr.rf
theorem C_keeps {E : f_E} {σ : f_Mem} {n : Nat} {b : Option Nat} {s f : Nat} {r : List Nat} (h : Lrn σ n b s f r) {a : Nat} (ha : a ≤ r.length) (hr : r.length < 1000000) : FZ E sC mX0_keeps 0 [.ref (f_ad E n), .int (iI a)] σ (if 0 < a ∧ r.length < a + 40 then 1 else 0) (fun u => u = σ) := by
  refine FZ.intro rfl (Nat.le_of_ble_eq_true rfl) (L0 := [some (.ref (f_ad E n)), some (.int (iI a))]) rfl (fun G hR => ?_)
  refine g_iload_1 hR dX0_keeps_0 (g_if_le hR 19 dX0_keeps_1 (by decide) (by omega) (fun c1 => ?_) (fun c1 => ?_))
  · skip
    refine g_iconst hR dX0_keeps_19 ?_
    exact g_zret hR dX0_keeps_20 rfl (by omega) (by rw [if_neg (by omega)]) rfl
  · skip
    refine g_iload_1 hR dX0_keeps_4 (g_aload_0 hR dX0_keeps_5 (g_getI hR _ dX0_keeps_6 flX0_38 h.sh.lt h.sh.obj rfl h.heard (g_bipush hR dX0_keeps_9 (by decide) (g_isub hR dX0_keeps_11 (g_icmp_le hR 19 dX0_keeps_12 (by decide) (by omega) (by omega) (fun c12 => ?_) (fun c12 => ?_))))))
    · skip
      refine g_iconst hR dX0_keeps_19 ?_
      exact g_zret hR dX0_keeps_20 rfl (by omega) (by rw [if_neg (by omega)]) rfl
    · skip
      refine g_iconst hR dX0_keeps_15 (g_goto hR 20 dX0_keeps_16 (by decide) ?_)
      exact g_zret hR dX0_keeps_20 rfl (by omega) (by rw [if_pos (by omega)]) rfl

theorem ap_comm (L : Les) (k j : Nat) : ap L k j = ap L j k := by unfold ap; rw [Nat.xor_comm]
def BestJ (L : Les) (r : List Nat) (f J k few lat doing : Nat) : Prop := (few = 1000000 ∧ lat = 0 ∧ doing = f ∧ ∀ q w : Nat, r[q]? = some w → q < 40 → ¬ w / 6 < J) ∨ ∃ p w : Nat, r[p]? = some w ∧ p < 40 ∧ w / 6 < J ∧ few = ap L k (w / 6) ∧ lat = r.length - p ∧ doing = w % 6 ∧ ∀ q v : Nat, r[q]? = some v → q < 40 → v / 6 < J → ap L k (w / 6) < ap L k (v / 6) ∨ (ap L k (w / 6) = ap L k (v / 6) ∧ p ≤ q)
theorem BestJ.few {L : Les} {r : List Nat} {f J k few lat doing : Nat} (h : BestJ L r f J k few lat doing) : few ≤ 1000000 ∧ lat ≤ r.length := by
  rcases h with ⟨h1, h2, -⟩ | ⟨p, w, -, -, -, h4, h5, -⟩
  · omega
  · have := pc5_le ((Lm L).getD k 0 ^^^ (Lm L).getD (w / 6) 0)
    unfold ap at h4
    omega
theorem BestJ.skip {L : Les} {r : List Nat} {f J k few lat doing : Nat} (h : BestJ L r f J k few lat doing) (hk : ¬ (0 < latR r J ∧ r.length < latR r J + 40)) : BestJ L r f (J + 1) k few lat doing := by
  have key : ∀ q v : Nat, r[q]? = some v → q < 40 → v / 6 < J + 1 → v / 6 < J := by
    intro q v hq hq2 hv
    rcases latR_char r J with ⟨h1, h2⟩ | ⟨p, w, h1, h2, h3, h4, -⟩
    · have := h2 q v hq; omega
    · have hp := (List.getElem?_eq_some_iff.mp h1).1
      have hql := (List.getElem?_eq_some_iff.mp hq).1
      by_cases hv2 : v / 6 = J
      · have := h4 q v hq hv2; omega
      · omega
  rcases h with ⟨h1, h2, h3, h4⟩ | ⟨p, w, h1, h2, h3, h4, h5, h6, h7⟩
  · exact Or.inl ⟨h1, h2, h3, fun q w hq hq2 hw => h4 q w hq hq2 (key q w hq hq2 hw)⟩
  · exact Or.inr ⟨p, w, h1, h2, by omega, h4, h5, h6, fun q v hq hq2 hv => h7 q v hq hq2 (key q v hq hq2 hv)⟩
theorem BestJ.take {L : Les} {r : List Nat} {f J k few lat doing : Nat} (h : BestJ L r f J k few lat doing) (hk : 0 < latR r J ∧ r.length < latR r J + 40) (hb : ap L k J < few ∨ (ap L k J = few ∧ lat < latR r J)) : BestJ L r f (J + 1) k (ap L k J) (latR r J) (doiR f r J) := by
  rcases latR_char r J with ⟨h1, h2⟩ | ⟨p, w, h1, h2, h3, h4, h5⟩
  · omega
  have hp := (List.getElem?_eq_some_iff.mp h1).1
  refine Or.inr ⟨p, w, h1, by omega, by omega, by rw [h2], h3, h5 f, fun q v hq hq2 hv => ?_⟩
  rw [h2]
  by_cases hv2 : v / 6 = J
  · rw [hv2]; exact Or.inr ⟨rfl, h4 q v hq hv2⟩
  · rcases h with ⟨-, -, -, g4⟩ | ⟨p2, w2, g1, g2, g3, g4, g5, g6, g7⟩
    · exact absurd (by omega) (g4 q v hq hq2)
    · have := g7 q v hq hq2 (by omega)
      have hp2 := (List.getElem?_eq_some_iff.mp g1).1
      omega
theorem BestJ.keep {L : Les} {r : List Nat} {f J k few lat doing : Nat} (h : BestJ L r f J k few lat doing) (hk : 0 < latR r J ∧ r.length < latR r J + 40) (hb : ¬ (ap L k J < few ∨ (ap L k J = few ∧ lat < latR r J))) : BestJ L r f (J + 1) k few lat doing := by
  rcases latR_char r J with ⟨h1, h2⟩ | ⟨p, w, h1, h2, h3, h4, h5⟩
  · omega
  have hp := (List.getElem?_eq_some_iff.mp h1).1
  rcases h with ⟨g1, g2, -⟩ | ⟨p2, w2, g1, g2, g3, g4, g5, g6, g7⟩
  · have := pc5_le ((Lm L).getD k 0 ^^^ (Lm L).getD J 0)
    unfold ap at hb
    omega
  · refine Or.inr ⟨p2, w2, g1, g2, by omega, g4, g5, g6, fun q v hq hq2 hv => ?_⟩
    have hp2 := (List.getElem?_eq_some_iff.mp g1).1
    by_cases hv2 : v / 6 = J
    · have := h4 q v hq hv2
      rw [hv2]; omega
    · exact g7 q v hq hq2 (by omega)
theorem BestJ.fin {L : Les} {r : List Nat} {f k few lat doing : Nat} (h : BestJ L r f (Lm L).length k few lat doing) (hw : WOK L r) : doing = does L 2 f k r := by
  have e : does L 2 f k r = (bst (fun j => ap L j k) f 99 (r.take 40)).1 := rfl
  rw [e]
  have tk : ∀ q v : Nat, (r.take 40)[q]? = some v ↔ (r[q]? = some v ∧ q < 40) := by
    intro q v
    rw [List.getElem?_take]
    by_cases hq : q < 40
    · simp [hq]
    · simp [hq]
  rcases bst_char (fun j => ap L j k) f 99 (fun j => by have := pc5_le ((Lm L).getD j 0 ^^^ (Lm L).getD k 0); show ap L j k ≤ 99; unfold ap; omega) (r.take 40) with ⟨h1, h2⟩ | ⟨p, v, h1, h2, h3⟩
  · rw [h2]
    rcases h with ⟨-, -, g3, -⟩ | ⟨p, w, g1, g2, -⟩
    · exact g3
    · have := (tk p w).mpr ⟨g1, g2⟩
      rw [h1] at this; simp at this
  · rw [h2]
    obtain ⟨g1, g2⟩ := (tk p v).mp h1
    rcases h with ⟨-, -, -, g4⟩ | ⟨p2, w, k1, k2, k3, k4, k5, k6, k7⟩
    · exact absurd (hw v (List.mem_of_getElem? g1)) (g4 p v g1 g2)
    · have a1 := k7 p v g1 g2 (hw v (List.mem_of_getElem? g1))
      have a2 := h3 p2 w ((tk p2 w).mpr ⟨k1, k2⟩)
      simp only [ap_comm L _ k] at a2
      have hpp : p2 = p := by omega
      subst hpp
      rw [k1] at g1
      cases g1
      exact k6
theorem does_0 (L : Les) (f k : Nat) (r : List Nat) : does L 0 f k r = lastD f r := lastD_take f r
theorem does_1 (L : Les) (f k : Nat) (r : List Nat) : does L 1 f k r = befD f r := befD_take f r
theorem does_3 (L : Les) (f k : Nat) (r : List Nat) : does L 3 f k r = if 0 < latR r k ∧ r.length < latR r k + 40 then doiR f r k else f := by
  have e : does L 3 f k r = (bst (fun j => if j = k then 0 else 99) f 0 (r.take 40)).1 := rfl
  rw [e, (bst_same f k _).2, doiR_take]
def runR (L : Les) (s f : Nat) : List Nat → List Nat → List Nat
  | [], r => r
  | k :: t, r => runR L s f t (dayR L s f k r)
def runL (L : Les) (s f : Nat) : List Nat → List Nat → Nat
  | [], _ => 0
  | k :: t, r => lo L k (does L s f k r) + runL L s f t (dayR L s f k r)
def runD (L : Les) (s f : Nat) : List Nat → List Nat → List Nat
  | [], _ => []
  | k :: t, r => does L s f k r :: runD L s f t (dayR L s f k r)
def firstG (L : Les) (s f : Nat) : Nat → List Nat → List Nat → Int
  | _, [], _ => -4
  | p, k :: t, r => if oc L k (does L s f k r) = 0 then p else firstG L s f (p + 1) t (dayR L s f k r)
theorem runR_snoc (L : Les) (s f k : Nat) : ∀ (row r : List Nat), runR L s f (row ++ [k]) r = dayR L s f k (runR L s f row r)
  | [], r => rfl
  | j :: t, r => runR_snoc L s f k t _
theorem runL_snoc (L : Les) (s f k : Nat) : ∀ (row r : List Nat), runL L s f (row ++ [k]) r = runL L s f row r + lo L k (does L s f k (runR L s f row r))
  | [], r => by simp [runL, runR]
  | j :: t, r => by simp only [List.cons_append, runL, runR]; rw [runL_snoc L s f k t]; omega
theorem runD_snoc (L : Les) (s f k : Nat) : ∀ (row r : List Nat), runD L s f (row ++ [k]) r = runD L s f row r ++ [does L s f k (runR L s f row r)]
  | [], r => rfl
  | j :: t, r => by simp only [List.cons_append, runD, runR]; rw [runD_snoc L s f k t]
theorem runR_ok {L : Les} (ok : LesOK L) (s f : Nat) : ∀ (row r : List Nat), (∀ k ∈ row, k < (Lm L).length) → WOK L r → WOK L (runR L s f row r)
  | [], r, _, h => h
  | k :: t, r, hk, h => runR_ok ok s f t _ (fun j hj => hk j (List.mem_cons_of_mem _ hj)) (dayR_ok ok h (hk k List.mem_cons_self) s f)
theorem runR_len (L : Les) (s f : Nat) : ∀ (row r : List Nat), (runR L s f row r).length ≤ r.length + row.length
  | [], r => Nat.le_refl _
  | k :: t, r => by
    have h1 := runR_len L s f t (dayR L s f k r)
    have h2 := dayR_len L s f k r
    simp only [runR, List.length_cons]
    omega
theorem take_snoc {l : List Nat} {j : Nat} (h : j < l.length) : l.take (j + 1) = l.take j ++ [l.getD j 0] := by rw [List.take_add_one, getD_some h]; rfl
theorem drop_cons {l : List Nat} {j : Nat} (h : j < l.length) : l.drop j = l.getD j 0 :: l.drop (j + 1) := by
  rw [List.drop_eq_getElem_cons h]
  congr 1
  have := getD_some h
  rw [List.getElem?_eq_getElem h] at this
  exact Option.some.inj this
def enc6 (l : List Nat) : Nat := l.foldl (fun a d => 6 * a + d) 0

theorem C_likest {E : f_E} {σ : f_Mem} {n : Nat} {b : Option Nat} {s f : Nat} {r : List Nat} (h : Lrn σ n b s f r) {L : Les} {k : Nat} (hL : Lsn σ 19 L) (ok : LesOK L) (hw : WOK L r) (hf : f < 6) (hr : r.length < 1000000) (hk : k < (Lm L).length) : FZ E sC mX0_likestDoing 3 [.ref (f_ad E n), .int (iI k)] σ (does L 2 f k r : Nat) (fun u => u = σ) := by
  have hK := ok.k
  refine FZ.intro rfl (Nat.le_of_ble_eq_true rfl) (L0 := [some (.ref (f_ad E n)), some (.int (iI k)), none, none, none, none, none, none, none]) rfl (fun G hR => ?_)
  refine g_aload_0 hR dX0_likestDoing_0 (g_getR hR dX0_likestDoing_1 flX0_23 h.sh.lt h.sh.obj rfl (g_getR hR dX0_likestDoing_4 flX0_72 sh_laid.lt sh_laid.obj rfl (g_iload_1 hR dX0_likestDoing_7 (g_callV1P hR dX0_likestDoing_8 mlX0_58 sh_laid.marks.lt sh_laid.marks.obj rfl (Cn_at hL.m (by omega)) (by decide) (Nat.le_of_ble_eq_true rfl) (g_istore_2 hR dX0_likestDoing_11 rfl (g_aload_0 hR dX0_likestDoing_12 (g_getI hR _ dX0_likestDoing_13 flX0_35 h.sh.lt h.sh.obj rfl h.first (g_istore_3 hR dX0_likestDoing_16 rfl (g_ldc hR (1000000) dX0_likestDoing_17 kcX0_77 (by decide) (g_istore_4 hR dX0_likestDoing_19 rfl (g_iconst hR dX0_likestDoing_21 (g_istore_5 hR dX0_likestDoing_22 rfl (g_iconst hR dX0_likestDoing_24 (g_istore_6 hR dX0_likestDoing_25 rfl ?_))))))))))))))
  have loop : ∀ (mm J few lat doing : Nat), mm = (Lm L).length - J → J ≤ (Lm L).length → BestJ L r f J k few lat doing → ∀ x7 x8 : Option Value, G 27 [some (.ref (f_ad E n)), some (.int (iI k)), some (.int (iI ((Lm L).getD k 0 : Nat))), some (.int (iI doing)), some (.int (iI few)), some (.int (iI lat)), some (.int (iI J)), x7, x8] [] σ := by
    intro mm
    induction mm using Nat.strongRecOn with
    | ind mm ih =>
      intro J few lat doing hm hJ hB x7 x8
      have hfew := hB.few
      have hla := latR_le r J
      have hap : ap L k J ≤ 5 := pc5_le _
      refine g_iload_6 hR dX0_likestDoing_27 (g_aload_0 hR dX0_likestDoing_29 (g_getR hR dX0_likestDoing_30 flX0_23 h.sh.lt h.sh.obj rfl (g_callV0P hR dX0_likestDoing_33 mlX0_78 sh_laid.lt sh_laid.obj rfl (C_kinds hL) (by decide) (Nat.le_of_ble_eq_true rfl) (g_icmp_ge hR 122 dX0_likestDoing_36 (by decide) (by omega) (by omega) (fun c36 => ?_) (fun c36 => ?_)))))
      · skip
        refine g_iload_3 hR dX0_likestDoing_122 ?_
        have e : J = (Lm L).length := by omega
        subst e
        exact g_iret hR dX0_likestDoing_123 rfl (by rw [hB.fin hw]) rfl
      · skip
        refine g_aload_0 hR dX0_likestDoing_39 (g_getR hR dX0_likestDoing_40 flX0_14 h.sh.lt h.sh.obj rfl (g_iload_6 hR dX0_likestDoing_43 (g_callV1P hR dX0_likestDoing_45 mlX0_58 h.sh.latest.lt h.sh.latest.obj rfl (map6_get (latR r) (show J < 6 from by omega) ▸ Cn_at h.lat (i := J) (by omega)) (by decide) (Nat.le_of_ble_eq_true rfl) (g_istore_7 hR dX0_likestDoing_48 rfl (g_aload_0 hR dX0_likestDoing_50 (g_iload_7 hR dX0_likestDoing_51 (g_callV1P hR dX0_likestDoing_53 mlX0_68 h.sh.lt h.sh.obj rfl (C_keeps h (a := latR r J) hla hr) (by decide) (Nat.le_of_ble_eq_true rfl) (g_if_eq hR 116 dX0_likestDoing_56 (by decide) (by split <;> omega) (fun c56 => ?_) (fun c56 => ?_)))))))))
        · skip
          refine g_iinc_6 hR dX0_likestDoing_116 rfl (g_goto hR 27 dX0_likestDoing_119 (by decide) ?_)
          exact ih ((Lm L).length - (J + 1)) (by omega) (J + 1) few lat doing rfl (by omega) (hB.skip (fun q => by rw [if_pos q] at c56; omega)) _ _
        · skip
          have ck : 0 < latR r J ∧ r.length < latR r J + 40 := by
            by_cases q : 0 < latR r J ∧ r.length < latR r J + 40
            · exact q
            · rw [if_neg q] at c56; omega
          refine g_iload_2 hR dX0_likestDoing_59 (g_aload_0 hR dX0_likestDoing_60 (g_getR hR dX0_likestDoing_61 flX0_23 h.sh.lt h.sh.obj rfl (g_getR hR dX0_likestDoing_64 flX0_72 sh_laid.lt sh_laid.obj rfl (g_iload_6 hR dX0_likestDoing_67 (g_callV1P hR dX0_likestDoing_69 mlX0_58 sh_laid.marks.lt sh_laid.marks.obj rfl (Cn_at hL.m (i := J) (by omega)) (by decide) (Nat.le_of_ble_eq_true rfl) (g_callS2P hR dX0_likestDoing_72 mlX0_81 (C_marksApart (ok.m k) (ok.m J)) (by decide) (Nat.le_of_ble_eq_true rfl) (g_istore_8 hR dX0_likestDoing_75 rfl (g_iload_8 hR dX0_likestDoing_77 (g_iload_4 hR dX0_likestDoing_79 (g_icmp_lt hR 98 dX0_likestDoing_81 (by decide) (by unfold ap at hap; omega) (by omega) (fun c81 => ?_) (fun c81 => ?_)))))))))))
          · skip
            refine g_iload_8 hR dX0_likestDoing_98 (g_istore_4 hR dX0_likestDoing_100 rfl (g_iload_7 hR dX0_likestDoing_102 (g_istore_5 hR dX0_likestDoing_104 rfl (g_aload_0 hR dX0_likestDoing_106 (g_getR hR dX0_likestDoing_107 flX0_20 h.sh.lt h.sh.obj rfl (g_iload_6 hR dX0_likestDoing_110 (g_callV1P hR dX0_likestDoing_112 mlX0_58 h.sh.doing.lt h.sh.doing.obj rfl (map6_get (doiR f r) (show J < 6 from by omega) ▸ Cn_at h.doi (i := J) (by omega)) (by decide) (Nat.le_of_ble_eq_true rfl) (g_istore_3 hR dX0_likestDoing_115 rfl (g_iinc_6 hR dX0_likestDoing_116 rfl (g_goto hR 27 dX0_likestDoing_119 (by decide) ?_))))))))))
            exact ih ((Lm L).length - (J + 1)) (by omega) (J + 1) (ap L k J) (latR r J) (doiR f r J) rfl (by omega) (hB.take ck (by unfold ap; omega)) _ _
          · skip
            refine g_iload_8 hR dX0_likestDoing_84 (g_iload_4 hR dX0_likestDoing_86 (g_icmp_ne hR 116 dX0_likestDoing_88 (by decide) (by unfold ap at hap; omega) (by omega) (fun c88 => ?_) (fun c88 => ?_)))
            · skip
              refine g_iinc_6 hR dX0_likestDoing_116 rfl (g_goto hR 27 dX0_likestDoing_119 (by decide) ?_)
              exact ih ((Lm L).length - (J + 1)) (by omega) (J + 1) few lat doing rfl (by omega) (hB.keep ck (by unfold ap; omega)) _ _
            · skip
              refine g_iload_7 hR dX0_likestDoing_91 (g_iload_5 hR dX0_likestDoing_93 (g_icmp_le hR 116 dX0_likestDoing_95 (by decide) (by omega) (by omega) (fun c95 => ?_) (fun c95 => ?_)))
              · skip
                refine g_iinc_6 hR dX0_likestDoing_116 rfl (g_goto hR 27 dX0_likestDoing_119 (by decide) ?_)
                exact ih ((Lm L).length - (J + 1)) (by omega) (J + 1) few lat doing rfl (by omega) (hB.keep ck (by unfold ap; omega)) _ _
              · skip
                refine g_iload_8 hR dX0_likestDoing_98 (g_istore_4 hR dX0_likestDoing_100 rfl (g_iload_7 hR dX0_likestDoing_102 (g_istore_5 hR dX0_likestDoing_104 rfl (g_aload_0 hR dX0_likestDoing_106 (g_getR hR dX0_likestDoing_107 flX0_20 h.sh.lt h.sh.obj rfl (g_iload_6 hR dX0_likestDoing_110 (g_callV1P hR dX0_likestDoing_112 mlX0_58 h.sh.doing.lt h.sh.doing.obj rfl (map6_get (doiR f r) (show J < 6 from by omega) ▸ Cn_at h.doi (i := J) (by omega)) (by decide) (Nat.le_of_ble_eq_true rfl) (g_istore_3 hR dX0_likestDoing_115 rfl (g_iinc_6 hR dX0_likestDoing_116 rfl (g_goto hR 27 dX0_likestDoing_119 (by decide) ?_))))))))))
                exact ih ((Lm L).length - (J + 1)) (by omega) (J + 1) (ap L k J) (latR r J) (doiR f r J) rfl (by omega) (hB.take ck (by unfold ap; omega)) _ _
  exact loop (Lm L).length 0 1000000 0 f (by omega) (by omega) (Or.inl ⟨rfl, rfl, rfl, fun q w _ _ => by omega⟩) _ _
