
def cmpI (x y : Int) : Int := if y < x then 1 else if x = y then 0 else -1
theorem lg_cmpI {x y : Int} (hx : -9223372036854775808 ≤ x ∧ x < 9223372036854775808) (hy : -9223372036854775808 ≤ y ∧ y < 9223372036854775808) : lg_cmp (lL x) (lL y) = iI (cmpI x y) := by
  unfold lg_cmp cmpI
  by_cases h1 : y < x
  · rw [if_pos h1, if_pos ((lL_lt hy hx).mpr h1)]; rfl
  · rw [if_neg h1, if_neg (fun q => h1 ((lL_lt hy hx).mp q))]
    by_cases h2 : x = y
    · rw [if_pos h2, if_pos ((lL_inj hx hy).mpr h2)]; rfl
    · rw [if_neg h2, if_neg (fun q => h2 ((lL_inj hx hy).mp q))]; rfl
/-- one cell is written -/
def Wr (σ u : f_Mem) (n j : Nat) (v : Int32) : Prop := u n j = v ∧ (∀ i, i ≠ j → u n i = σ n i) ∧ ∀ m, m ≠ n → u m = σ m
theorem Wr.mk (σ : f_Mem) (n j : Nat) (v : Int32) : Wr σ (m_set σ n j v) n j v := ⟨m_set_at, fun _ h => m_set_j h, fun _ h => m_set_n h⟩
section MZ
variable {ρ0 : Type} {cc : ByteArray} {own : String} {ret : Option FieldType} {D : Nat} {E : f_E} {S : f_S} {encR : ρ0 → Option Value} {post : ρ0 → f_Mem → Prop} {G : f_G} {pc : Nat} {L : f_L} {st : List Value} {σ : f_Mem}
theorem g_lcmp (hR : Rul cc own ret D E S encR post G) {x y : Int} (hd : decode cc pc = .ok (.lcmp, 1)) (hx : -9223372036854775808 ≤ x ∧ x < 9223372036854775808) (hy : -9223372036854775808 ≤ y ∧ y < 9223372036854775808) (k : G (pc + 1) L (.int (iI (cmpI x y)) :: st) σ) : G pc L (.long (lL y) :: .long (lL x) :: st) σ := k_lcmp hR pc L st σ (lL x) (lL y) hd (by rw [lg_cmpI hx hy]; exact k)
theorem g_aldU (hR : Rul cc own ret D E S encR post G) {n len j : Nat} {i : Int} (z : Int) (hd : decode cc pc = .ok (.iaload, 1)) (hn : n < S.1) (hs : S.2 n = .inr (.inl len)) (hL : len < 2147483648) (hi : 0 ≤ i ∧ i < len) (hv : σ n j = iI z) (e : i = j) (kk : G (pc + 1) L (.int (iI z) :: st) σ) : G pc L (.int (iI i) :: .ref (f_ad E n) :: st) σ := g_ald hR z hd hn hs hL hi (by rw [e]; exact hv) kk
theorem g_astU (hR : Rul cc own ret D E S encR post G) {n len : Nat} (j : Nat) {i : Int} {v : Int32} (hd : decode cc pc = .ok (.iastore, 1)) (hn : n < S.1) (hs : S.2 n = .inr (.inl len)) (hL : len < 2147483648) (hi : 0 ≤ i ∧ i < len) (e : i = j) (kk : ∀ u, Wr σ u n j v → G (pc + 1) L st u) : G pc L (.int v :: .int (iI i) :: .ref (f_ad E n) :: st) σ := g_ast hR hd hn hs hL hi (kk _ (by rw [e]; exact Wr.mk σ n j v))
theorem g_putU (hR : Rul cc own ret D E S encR post G) {i ci k n : Nat} {fs : List (Option (Option Nat))} {v : Int32} (hd : decode cc pc = .ok (.putfield i, 3)) (hl : f_FP own i ci k) (hn : n < S.1) (hs : S.2 n = .inl (ci, fs)) (hf : fs[k]? = some none) (kk : ∀ u, Wr σ u n k v → G (pc + 3) L st u) : G pc L (.int v :: .ref (f_ad E n) :: st) σ := g_put hR hd hl hn hs hf (kk _ (Wr.mk σ n k v))
end MZ
/-- only these arrays and these of the object's own ints have changed -/
def FrM (as fs : List Nat) (σ u : f_Mem) : Prop := (∀ n, n ≠ 0 → n ∉ as → u n = σ n) ∧ ∀ k, k ∉ fs → u 0 k = σ 0 k
theorem FrM.rf {as fs : List Nat} {σ : f_Mem} : FrM as fs σ σ := ⟨fun _ _ _ => rfl, fun _ _ => rfl⟩
theorem FrM.tr {as fs : List Nat} {σ u v : f_Mem} (h1 : FrM as fs σ u) (h2 : FrM as fs u v) : FrM as fs σ v := ⟨fun n a b => (h2.1 n a b).trans (h1.1 n a b), fun k a => (h2.2 k a).trans (h1.2 k a)⟩
theorem FrM.mono {as fs as' fs' : List Nat} {σ u : f_Mem} (h : FrM as fs σ u) (ha : ∀ x ∈ as, x ∈ as') (hb : ∀ x ∈ fs, x ∈ fs') : FrM as' fs' σ u := ⟨fun n a b => h.1 n a (fun q => b (ha n q)), fun k a => h.2 k (fun q => a (hb k q))⟩
theorem FrM.ar {as fs : List Nat} {σ u : f_Mem} {n j : Nat} {v : Int32} (h : Wr σ u n j v) (hn : n ≠ 0) (ha : n ∈ as) : FrM as fs σ u := ⟨fun m a b => h.2.2 m (fun q => b (q ▸ ha)), fun k _ => by rw [h.2.2 0 (fun q => hn q.symm)]⟩
theorem FrM.fd {as fs : List Nat} {σ u : f_Mem} {j : Nat} {v : Int32} (h : Wr σ u 0 j v) (hb : j ∈ fs) : FrM as fs σ u := ⟨fun m a _ => h.2.2 m a, fun k q => h.2.1 k (fun z => q (z ▸ hb))⟩
/-! what the reference's cells hold -/
def LsM (σ : f_Mem) (a : Nat) (L : Les) : Prop := ∀ k, k < (Lm L).length → σ a (5 * k) = iI ((Lm L).getD k 0 : Nat) ∧ σ a (5 * k + 1) = iI ((Lr L).getD k 0 : Nat) ∧ σ a (5 * k + 2) = iI ((Lp L).getD k 0 : Nat) ∧ σ a (5 * k + 3) = iI ((Lw L).getD k 0 : Nat) ∧ σ a (5 * k + 4) = iI ((Lc L).getD k 0 : Nat)
def HdM (σ : f_Mem) (L : Les) : Prop := σ 0 1 = iI ((Lm L).length : Nat) ∧ σ 0 2 = iI (Lsort L : Nat) ∧ σ 0 3 = iI (Lfirst L : Nat)
def RwM (σ : f_Mem) (a : Nat) (row : List Nat) : Prop := ∀ i, i < row.length → σ a i = iI (row.getD i 0 : Nat)
def stW (r : List Nat) (i : Nat) : Option Nat := if i < min 40 r.length then r[min 40 r.length - 1 - i]? else none
def stL (M : Mms) (i : Nat) : Option Nat := if i < 40 then stW M.1 i else if i = 40 then some (min 40 M.1.length) else if i = 41 then some M.2.2.1 else if i = 42 then some M.2.2.2.1 else if i = 43 then some M.2.2.2.2 else if i < 50 then some (M.2.1.getD (i - 44) 0) else none
def StM (σ : f_Mem) (a o : Nat) (M : Mms) : Prop := ∀ i v, stL M i = some v → σ a (o + i) = iI (v : Nat)
section MP
variable {σ u : f_Mem} {L : Les} {M : Mms} {a b o p : Nat}
theorem LsM.fr (h : LsM σ a L) (e : u a = σ a) : LsM u a L := by unfold LsM; rw [e]; exact h
theorem RwM.fr {row : List Nat} (h : RwM σ a row) (e : u a = σ a) : RwM u a row := by unfold RwM; rw [e]; exact h
theorem HdM.fr (h : HdM σ L) (e : ∀ k, (k = 1 ∨ k = 2 ∨ k = 3) → u 0 k = σ 0 k) : HdM u L := by
  unfold HdM; rw [e 1 (by omega), e 2 (by omega), e 3 (by omega)]; exact h
theorem StM.fr (h : StM σ a o M) (e : u a = σ a) : StM u a o M := by unfold StM; rw [e]; exact h
theorem stL_lt {i v : Nat} (h : stL M i = some v) : i < 50 := by
  unfold stL at h
  by_cases q : i < 50
  · exact q
  · rw [if_neg (by omega), if_neg (by omega), if_neg (by omega), if_neg (by omega), if_neg (by omega), if_neg q] at h; cases h
theorem StM.cp (h : StM σ a o M) (e : ∀ i, i < 50 → u b (p + i) = σ a (o + i)) : StM u b p M := fun i v q => (e i (stL_lt q)).trans (h i v q)
theorem StM.set {M' : Mms} {j : Nat} {z : Int} (h : StM σ a o M) (hu : Wr σ u a (o + j) (iI z)) (hM : ∀ i v, i ≠ j → stL M' i = some v → stL M i = some v) (hj : ∀ v : Nat, stL M' j = some v → (v : Int) = z) : StM u a o M' := fun i v q => by
  by_cases e : i = j
  · subst e; rw [hu.1, hj v q]
  · rw [hu.2.1 (o + i) (by omega)]; exact h i v (hM i v e q)
theorem StM.many (h : StM σ a o M) : σ a (o + 40) = iI ((min 40 M.1.length : Nat) : Int) := h 40 _ rfl
theorem StM.days (h : StM σ a o M) : σ a (o + 41) = iI (M.2.2.1 : Nat) := h 41 _ rfl
theorem StM.lost (h : StM σ a o M) : σ a (o + 42) = iI (M.2.2.2.1 : Nat) := h 42 _ rfl
theorem StM.goods (h : StM σ a o M) : σ a (o + 43) = iI (M.2.2.2.2 : Nat) := h 43 _ rfl
theorem StM.hd (h : StM σ a o M) {k : Nat} (hk : k < 6) : σ a (o + (44 + k)) = iI (M.2.1.getD k 0 : Nat) := h (44 + k) _ (by unfold stL; rw [if_neg (by omega), if_neg (by omega), if_neg (by omega), if_neg (by omega), if_neg (by omega), if_pos (by omega), show 44 + k - 44 = k from by omega])
theorem stW_some {r : List Nat} {i : Nat} (h : i < min 40 r.length) : stW r i = some (r.getD (min 40 r.length - 1 - i) 0) := by
  unfold stW; rw [if_pos h]
  exact getD_some (by omega)
theorem StM.word (h : StM σ a o M) {i : Nat} (hi : i < min 40 M.1.length) : σ a (o + i) = iI (M.1.getD (min 40 M.1.length - 1 - i) 0 : Nat) := h i _ (by unfold stL; rw [if_pos (by omega)]; exact stW_some hi)
theorem stW_take (r : List Nat) (i : Nat) : stW (r.take 40) i = stW r i := by
  unfold stW
  rw [List.length_take, show min 40 (min 40 r.length) = min 40 r.length from by omega]
  split
  · rw [List.getElem?_take_of_lt (by omega)]
  · rfl
theorem StM.take (h : StM σ a o M) : StM σ a o (M.1.take 40, M.2) := fun i v q => h i v (by
  unfold stL at q ⊢
  rw [stW_take, List.length_take, show min 40 (min 40 M.1.length) = min 40 M.1.length from by omega] at q
  exact q)
theorem stW_cons {r : List Nat} {w i : Nat} : stW (w :: r) i = if 40 ≤ r.length then (if i < 39 then stW r (i + 1) else if i = 39 then some w else none) else if i = r.length then some w else stW r i := by
  unfold stW
  simp only [List.length_cons]
  by_cases h : 40 ≤ r.length
  · rw [if_pos h]
    by_cases h1 : i < 39
    · rw [if_pos h1, if_pos (by omega), if_pos (by omega), show min 40 (r.length + 1) - 1 - i = (38 - i) + 1 from by omega, List.getElem?_cons_succ, show min 40 r.length - 1 - (i + 1) = 38 - i from by omega]
    · rw [if_neg h1]
      by_cases h2 : i = 39
      · rw [if_pos h2, if_pos (by omega), show min 40 (r.length + 1) - 1 - i = 0 from by omega]; rfl
      · rw [if_neg h2, if_neg (by omega)]
  · rw [if_neg h]
    by_cases h1 : i = r.length
    · rw [if_pos h1, if_pos (by omega), show min 40 (r.length + 1) - 1 - i = 0 from by omega]; rfl
    · rw [if_neg h1]
      by_cases h2 : i < r.length
      · rw [if_pos (by omega), if_pos (by omega), show min 40 (r.length + 1) - 1 - i = (min 40 r.length - 1 - i) + 1 from by omega, List.getElem?_cons_succ]
      · rw [if_neg (by omega), if_neg (by omega)]
end MP
theorem pc5_low : ∀ s, s < 32 → 0 < s → pc5 (s &&& (s - 1)) + 1 = pc5 s ∧ s &&& (s - 1) < s := by decide

theorem C8_in {E : f_E} {σ : f_Mem} {v lo hi : Int} (h1 : -2147483649 ≤ v ∧ v < 2147483648) (h2 : -2147483649 ≤ lo ∧ lo < 2147483648) (h3 : -2147483649 ≤ hi ∧ hi < 2147483648) : FZ E sM mX8_in 0 [.long (lL v), .long (lL lo), .long (lL hi)] σ (if lo ≤ v ∧ v ≤ hi then 1 else 0) (fun u => u = σ) := by
  refine FZ.intro rfl (Nat.le_of_ble_eq_true rfl) (L0 := [some (.long (lL v)), none, some (.long (lL lo)), none, some (.long (lL hi)), none]) rfl (fun G hR => ?_)
  refine g_lload_0 hR dX8_in_0 (g_lload_2 hR dX8_in_1 (g_lcmp hR dX8_in_2 (by omega) (by omega) (g_if_lt hR 17 dX8_in_3 (by decide) (by unfold cmpI; split <;> (try split) <;> omega) (fun zc3 => ?_) (fun zc3 => ?_))))
  · skip
    have q : ¬ (lo ≤ v ∧ v ≤ hi) := by unfold cmpI at zc3; split at zc3 <;> (try split at zc3) <;> omega
    refine g_iconst hR dX8_in_17 ?_
    exact g_zret hR dX8_in_18 rfl (Or.inl rfl) (by rw [if_neg q]) rfl
  · skip
    have q1 : lo ≤ v := by unfold cmpI at zc3; split at zc3 <;> (try split at zc3) <;> omega
    refine g_lload_0 hR dX8_in_6 (g_lload_4 hR dX8_in_7 (g_lcmp hR dX8_in_9 (by omega) (by omega) (g_if_gt hR 17 dX8_in_10 (by decide) (by unfold cmpI; split <;> (try split) <;> omega) (fun zc10 => ?_) (fun zc10 => ?_))))
    · skip
      have q : ¬ (lo ≤ v ∧ v ≤ hi) := by unfold cmpI at zc10; split at zc10 <;> (try split at zc10) <;> omega
      refine g_iconst hR dX8_in_17 ?_
      exact g_zret hR dX8_in_18 rfl (Or.inl rfl) (by rw [if_neg q]) rfl
    · skip
      have q : lo ≤ v ∧ v ≤ hi := by unfold cmpI at zc10; split at zc10 <;> (try split at zc10) <;> omega
      refine g_iconst hR dX8_in_13 (g_goto hR 18 dX8_in_14 (by decide) ?_)
      exact g_zret hR dX8_in_18 rfl (Or.inr rfl) (by rw [if_pos q]) rfl
theorem C8_has {E : f_E} {σ : f_Mem} {m k : Nat} (hm : m < 2147483648) (hk : k < 32) : FZ E sM mX8_has 0 [.int (iI m), .int (iI k)] σ (if m / 2 ^ k % 2 = 1 then 1 else 0) (fun u => u = σ) := by
  refine FZ.intro rfl (Nat.le_of_ble_eq_true rfl) (L0 := [some (.int (iI m)), some (.int (iI k))]) rfl (fun G hR => ?_)
  refine g_iload_0 hR dX8_has_0 (g_iload_1 hR dX8_has_1 (g_ishr hR dX8_has_2 hm hk (g_iconst hR dX8_has_3 (g_iand1 hR dX8_has_4 (g_iconst hR dX8_has_5 (g_icmp_ne hR 13 dX8_has_6 (by decide) (by omega) (by omega) (fun zc6 => ?_) (fun zc6 => ?_)))))))
  · skip
    refine g_iconst hR dX8_has_13 ?_
    exact g_zret hR dX8_has_14 rfl (Or.inl rfl) (by rw [if_neg (by omega)]) rfl
  · skip
    refine g_iconst hR dX8_has_9 (g_goto hR 14 dX8_has_10 (by decide) ?_)
    exact g_zret hR dX8_has_14 rfl (Or.inr rfl) (by rw [if_pos (by omega)]) rfl
theorem C8_ones {E : f_E} {σ : f_Mem} {n : Nat} (hn : n < 32) : FZ E sM mX8_ones 0 [.int (iI n)] σ (pc5 n : Nat) (fun u => u = σ) := by
  refine FZ.intro rfl (Nat.le_of_ble_eq_true rfl) (L0 := [some (.int (iI n)), none, none]) rfl (fun G hR => ?_)
  refine g_iconst hR dX8_ones_0 (g_istore_1 hR dX8_ones_1 rfl (g_iload_0 hR dX8_ones_2 (g_istore_2 hR dX8_ones_3 rfl ?_)))
  have loop : ∀ (mm : Nat) (c s : Nat), mm = s → s < 32 → c + pc5 s = pc5 n → G 4 [some (.int (iI n)), some (.int (iI c)), some (.int (iI s))] [] σ := by
    intro mm
    induction mm using Nat.strongRecOn with
    | ind mm ih =>
      intro c s hm hs hc
      refine g_iload_2 hR dX8_ones_4 (g_if_eq hR 20 dX8_ones_5 (by decide) (by omega) (fun zc5 => ?_) (fun zc5 => ?_))
      · skip
        refine g_iload_1 hR dX8_ones_20 ?_
        exact g_iret hR dX8_ones_21 rfl (by rw [← hc, show s = 0 from by omega]; rfl) rfl
      · skip
        have hl := pc5_low s hs (by omega)
        refine g_iinc_1 hR dX8_ones_8 rfl (g_iload_2 hR dX8_ones_11 (g_iload_2 hR dX8_ones_12 (g_iconst hR dX8_ones_13 (g_isub hR dX8_ones_14 ?_))))
        rw [show (s : Int) - 1 = ((s - 1 : Nat) : Int) from by omega]
        refine g_iand hR dX8_ones_15 (g_istore_2 hR dX8_ones_16 rfl (g_goto hR 4 dX8_ones_17 (by decide) ?_))
        exact ih (s &&& (s - 1)) (by omega) (c + 1) (s &&& (s - 1)) rfl (by omega) (by omega)
  exact loop n 0 n rfl hn (by omega)
theorem C8_isKind {E : f_E} {σ : f_Mem} {L : Les} (h : HdM σ L) (ok : LesOK L) {a : Int} (ha : -2147483648 ≤ a ∧ a < 2147483648) : FZ E sM mX8_isKind 1 [.ref (f_ad E 0), .int (iI a)] σ (if 0 ≤ a ∧ a < (Lm L).length then 1 else 0) (fun u => u = σ) := by
  have hK6 := ok.k
  refine FZ.intro rfl (Nat.le_of_ble_eq_true rfl) (L0 := [some (.ref (f_ad E 0)), some (.int (iI a))]) rfl (fun G hR => ?_)
  refine g_iload_1 hR dX8_isKind_0 (g_i2l hR dX8_isKind_1 (by omega) (g_lconst hR 0 dX8_isKind_2 (by decide) (g_aload_0 hR dX8_isKind_3 (g_getI hR _ dX8_isKind_4 flX8_75 (by decide) rfl rfl h.1 (g_iconst hR dX8_isKind_7 (g_isub hR dX8_isKind_8 (g_i2l hR dX8_isKind_9 (by omega) (g_callS3P hR dX8_isKind_10 mlX8_78 (C8_in (by omega) (by omega) (by omega)) (by decide) (Nat.le_of_ble_eq_true rfl) ?_))))))))
  exact g_zret hR dX8_isKind_13 rfl (by split <;> omega) (by split <;> split <;> omega) rfl
theorem C8_isDoing {E : f_E} {σ : f_Mem} {a : Int} (ha : -2147483648 ≤ a ∧ a < 2147483648) : FZ E sM mX8_isDoing 1 [.int (iI a)] σ (if 0 ≤ a ∧ a ≤ 5 then 1 else 0) (fun u => u = σ) := by
  refine FZ.intro rfl (Nat.le_of_ble_eq_true rfl) (L0 := [some (.int (iI a))]) rfl (fun G hR => ?_)
  refine g_iload_0 hR dX8_isDoing_0 (g_i2l hR dX8_isDoing_1 (by omega) (g_lconst hR 0 dX8_isDoing_2 (by decide) (g_ldc2 hR (5) dX8_isDoing_3 kcX8_82 (by decide) (g_callS3P hR dX8_isDoing_6 mlX8_78 (C8_in (by omega) (by omega) (by omega)) (by decide) (Nat.le_of_ble_eq_true rfl) ?_))))
  exact g_zret hR dX8_isDoing_9 rfl (by split <;> omega) rfl rfl
theorem C8_unlikeOf {E : f_E} {σ : f_Mem} {L : Les} (h : LsM σ 1 L) (ok : LesOK L) {k j : Nat} (hk : k < (Lm L).length) (hj : j < (Lm L).length) : FZ E sM mX8_unlikeOf 1 [.ref (f_ad E 0), .int (iI k), .int (iI j)] σ (ap L k j : Nat) (fun u => u = σ) := by
  have hK6 := ok.k
  refine FZ.intro rfl (Nat.le_of_ble_eq_true rfl) (L0 := [some (.ref (f_ad E 0)), some (.int (iI k)), some (.int (iI j))]) rfl (fun G hR => ?_)
  refine g_aload_0 hR dX8_unlikeOf_0 (g_getR hR dX8_unlikeOf_1 flX8_7 (by decide) rfl rfl (g_iconst hR dX8_unlikeOf_4 (g_iload_1 hR dX8_unlikeOf_5 (g_imul hR dX8_unlikeOf_6 (g_aldU hR _ dX8_unlikeOf_7 (by decide) rfl (by decide) (by omega) (h k hk).1 (by omega) (g_aload_0 hR dX8_unlikeOf_8 (g_getR hR dX8_unlikeOf_9 flX8_7 (by decide) rfl rfl (g_iconst hR dX8_unlikeOf_12 (g_iload_2 hR dX8_unlikeOf_13 (g_imul hR dX8_unlikeOf_14 (g_aldU hR _ dX8_unlikeOf_15 (by decide) rfl (by decide) (by omega) (h j hj).1 (by omega) (g_ixor hR dX8_unlikeOf_16 (g_callS1P hR dX8_unlikeOf_17 mlX8_154 (C8_ones (Nat.xor_lt_two_pow (n := 5) (ok.m k) (ok.m j))) (by decide) (Nat.le_of_ble_eq_true rfl) ?_)))))))))))))
  exact g_iret hR dX8_unlikeOf_20 rfl rfl rfl
theorem C8_goes {E : f_E} {σ : f_Mem} {L : Les} (h : LsM σ 1 L) (ok : LesOK L) {k d : Nat} (hk : k < (Lm L).length) (hd : d < 6) : FZ E sM mX8_goes 1 [.ref (f_ad E 0), .int (iI k), .int (iI d)] σ (oc L k d : Nat) (fun u => u = σ) := by
  have hK6 := ok.k
  have hp6 := ok.p k
  have hr6 := ok.r k
  refine FZ.intro rfl (Nat.le_of_ble_eq_true rfl) (L0 := [some (.ref (f_ad E 0)), some (.int (iI k)), some (.int (iI d))]) rfl (fun G hR => ?_)
  refine g_iload_2 hR dX8_goes_0 (g_aload_0 hR dX8_goes_1 (g_getR hR dX8_goes_2 flX8_7 (by decide) rfl rfl (g_iconst hR dX8_goes_5 (g_iload_1 hR dX8_goes_6 (g_imul hR dX8_goes_7 (g_iconst hR dX8_goes_8 (g_iadd hR dX8_goes_9 (g_aldU hR _ dX8_goes_10 (by decide) rfl (by decide) (by omega) (h k hk).2.1 (by omega) (g_icmp_ne hR 18 dX8_goes_11 (by decide) (by omega) (by omega) (fun zc11 => ?_) (fun zc11 => ?_))))))))))
  · skip
    refine g_aload_0 hR dX8_goes_18 (g_getR hR dX8_goes_19 flX8_7 (by decide) rfl rfl (g_iconst hR dX8_goes_22 (g_iload_1 hR dX8_goes_23 (g_imul hR dX8_goes_24 (g_iconst hR dX8_goes_25 (g_iadd hR dX8_goes_26 (g_aldU hR _ dX8_goes_27 (by decide) rfl (by decide) (by omega) (h k hk).2.2.1 (by omega) (g_iload_2 hR dX8_goes_28 (g_callS2P hR dX8_goes_29 mlX8_162 (C8_has (by omega) (by omega)) (by decide) (Nat.le_of_ble_eq_true rfl) (g_if_eq hR 39 dX8_goes_32 (by decide) (by split <;> omega) (fun zc32 => ?_) (fun zc32 => ?_)))))))))))
    · skip
      refine g_iconst hR dX8_goes_39 ?_
      exact g_iret hR dX8_goes_40 rfl (by unfold oc; rw [if_neg (by omega), if_neg (fun q => by rw [if_pos q] at zc32; omega)]; rfl) rfl
    · skip
      refine g_iconst hR dX8_goes_35 (g_goto hR 40 dX8_goes_36 (by decide) ?_)
      exact g_iret hR dX8_goes_40 rfl (by unfold oc; rw [if_neg (by omega), if_pos (Decidable.byContradiction (fun q => by rw [if_neg q] at zc32; omega))]; rfl) rfl
  · skip
    refine g_iconst hR dX8_goes_14 (g_goto hR 40 dX8_goes_15 (by decide) ?_)
    exact g_iret hR dX8_goes_40 rfl (by unfold oc; rw [if_pos (by omega)]; rfl) rfl
