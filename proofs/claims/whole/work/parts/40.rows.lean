
/-! rows of the same things, in the order of the words -/
def ct (x : Nat) : List Nat → Nat
  | [] => 0
  | a :: t => (if a = x then 1 else 0) + ct x t
def lx : List Nat → List Nat → Prop
  | [], _ => False
  | _ :: _, [] => False
  | a :: s, b :: t => a < b ∨ (a = b ∧ lx s t)
theorem lx_irr : ∀ l, ¬ lx l l
  | [], h => h
  | a :: t, h => by
    rcases h with h | ⟨_, h⟩
    · omega
    · exact lx_irr t h
theorem lx_tr : ∀ a b c, lx a b → lx b c → lx a c
  | [], _, _, h, _ => h.elim
  | _ :: _, [], _, h, _ => h.elim
  | _ :: _, _ :: _, [], _, h => h.elim
  | x :: a, y :: b, z :: c, h1, h2 => by
    rcases h1 with h1 | ⟨h1, h3⟩
    · rcases h2 with h2 | ⟨h2, h4⟩
      · left; omega
      · left; omega
    · rcases h2 with h2 | ⟨h2, h4⟩
      · left; omega
      · right; exact ⟨by omega, lx_tr a b c h3 h4⟩
theorem lx_tri : ∀ a b : List Nat, a.length = b.length → a = b ∨ lx a b ∨ lx b a
  | [], [], _ => Or.inl rfl
  | [], _ :: _, h => by simp at h
  | _ :: _, [], h => by simp at h
  | x :: a, y :: b, h => by
    by_cases q : x = y
    · subst q
      rcases lx_tri a b (by simpa using h) with e | e | e
      · left; rw [e]
      · right; left; exact Or.inr ⟨rfl, e⟩
      · right; right; exact Or.inr ⟨rfl, e⟩
    · right
      by_cases z : x < y
      · left; exact Or.inl z
      · right; exact Or.inl (by omega)
theorem ct_mem {x : Nat} : ∀ {l : List Nat}, 0 < ct x l → x ∈ l
  | [], h => by simp [ct] at h
  | a :: t, h => by
    by_cases q : a = x
    · rw [q]; exact List.mem_cons_self
    · simp only [ct, if_neg q] at h
      exact List.mem_cons_of_mem _ (ct_mem (by omega))
theorem mem_ct {x : Nat} : ∀ {l : List Nat}, x ∈ l → 0 < ct x l
  | a :: t, h => by
    rcases List.mem_cons.mp h with q | q
    · subst q; simp only [ct, if_true]; omega
    · have := mem_ct q; simp only [ct]; omega
theorem mxA : ∀ (S q : List Nat), S.Pairwise (fun a b => b ≤ a) → q.length = S.length → (∀ x, ct x q = ct x S) → q = S ∨ lx q S
  | [], [], _, _, _ => Or.inl rfl
  | [], _ :: _, _, hl, _ => by simp at hl
  | _ :: _, [], _, hl, _ => by simp at hl
  | s :: S, x :: q, hp, hl, hc => by
    obtain ⟨hp1, hp2⟩ := List.pairwise_cons.mp hp
    have hx : x ∈ s :: S := ct_mem (by rw [← hc x]; simp only [ct, if_true]; omega)
    have hle : x ≤ s := by
      rcases List.mem_cons.mp hx with h | h
      · omega
      · exact hp1 x h
    by_cases e : x = s
    · subst e
      rcases mxA S q hp2 (by simpa using hl) (fun y => by have := hc y; simp only [ct] at this; omega) with h | h
      · left; rw [h]
      · right; exact Or.inr ⟨rfl, h⟩
    · right; exact Or.inl (by omega)
theorem mnA : ∀ (S q : List Nat), S.Pairwise (fun a b => a ≤ b) → q.length = S.length → (∀ x, ct x q = ct x S) → q = S ∨ lx S q
  | [], [], _, _, _ => Or.inl rfl
  | [], _ :: _, _, hl, _ => by simp at hl
  | _ :: _, [], _, hl, _ => by simp at hl
  | s :: S, x :: q, hp, hl, hc => by
    obtain ⟨hp1, hp2⟩ := List.pairwise_cons.mp hp
    have hx : x ∈ s :: S := ct_mem (by rw [← hc x]; simp only [ct, if_true]; omega)
    have hle : s ≤ x := by
      rcases List.mem_cons.mp hx with h | h
      · omega
      · exact hp1 x h
    by_cases e : x = s
    · subst e
      rcases mnA S q hp2 (by simpa using hl) (fun y => by have := hc y; simp only [ct] at this; omega) with h | h
      · left; rw [h]
      · right; exact Or.inr ⟨rfl, h⟩
    · right; exact Or.inl (by omega)
theorem nxt_ok : ∀ (W : List Nat) (a c : Nat) (S T q : List Nat), S.Pairwise (fun a b => b ≤ a) → T.Pairwise (fun a b => a ≤ b) → a < c → (∀ x ∈ S, a < x → c ≤ x) → (∀ x, ct x (W ++ c :: T) = ct x (W ++ a :: S)) → T.length = S.length → q.length = (W ++ a :: S).length → (∀ x, ct x q = ct x (W ++ a :: S)) → lx (W ++ a :: S) q → q = W ++ c :: T ∨ lx (W ++ c :: T) q
  | [], a, c, S, T, [], _, _, _, _, _, _, hl, _, _ => by simp at hl
  | [], a, c, S, T, x :: q, hS, hT, hac, hm, he, hlT, hl, hc, h => by
    rcases h with h | ⟨h, h2⟩
    · have hx : x ∈ a :: S := ct_mem (by have := hc x; simp only [List.nil_append] at this; rw [← this]; simp only [ct, if_true]; omega)
      have hx2 : x ∈ S := by
        rcases List.mem_cons.mp hx with z | z
        · omega
        · exact z
      have hcx := hm x hx2 h
      by_cases e : c = x
      · subst e
        rcases mnA T q hT (by simp at hl; omega) (fun y => by have h1 := hc y; have h2 := he y; simp only [List.nil_append, ct] at h1 h2; omega) with z | z
        · left; rw [z]; rfl
        · right; exact Or.inr ⟨rfl, z⟩
      · right; exact Or.inl (by omega)
    · exfalso
      rcases mxA S q hS (by simpa using hl) (fun y => by have h1 := hc y; simp only [List.nil_append, ct] at h1; rw [h] at h1; omega) with z | z
      · rw [z] at h2; exact lx_irr S h2
      · exact lx_irr S (lx_tr S q S h2 z)
  | y :: W, a, c, S, T, [], _, _, _, _, _, _, hl, _, _ => by simp at hl
  | y :: W, a, c, S, T, x :: q, hS, hT, hac, hm, he, hlT, hl, hc, h => by
    rcases h with h | ⟨h, h2⟩
    · right; exact Or.inl h
    · subst h
      rcases nxt_ok W a c S T q hS hT hac hm (fun z => by have := he z; simp only [List.cons_append, ct] at this; omega) hlT (by simpa using hl) (fun z => by have := hc z; simp only [List.cons_append, ct] at this; omega) h2 with z | z
      · left; rw [z]; rfl
      · right; exact Or.inr ⟨rfl, z⟩
theorem lx_app : ∀ (W : List Nat) (a c : Nat) (S T : List Nat), a < c → lx (W ++ a :: S) (W ++ c :: T)
  | [], a, c, S, T, h => Or.inl h
  | y :: W, a, c, S, T, h => Or.inr ⟨rfl, lx_app W a c S T h⟩
/-! the best of several -/
def BO (S : List Nat → Prop) (c : List Nat → Nat) (p : List Nat) (b R : Nat × List Nat) : Prop := (R = b ∧ ∀ q, S q → b.1 ≤ c q) ∨ ∃ q, S q ∧ R = (c q, p ++ q) ∧ c q < b.1 ∧ ∀ z, S z → c q < c z ∨ (c q = c z ∧ (q = z ∨ lx q z))
section BOS
variable {S S1 S2 : List Nat → Prop} {c c2 : List Nat → Nat} {p : List Nat} {b R R1 R2 : Nat × List Nat}
theorem BO.cg (h : BO S c p b R) (e : ∀ q, S q ↔ S2 q) (hc : ∀ q, c q = c2 q) : BO S2 c2 p b R := by
  rcases h with ⟨h1, h2⟩ | ⟨q, h1, h2, h3, h4⟩
  · exact Or.inl ⟨h1, fun q hq => by rw [← hc]; exact h2 q ((e q).mpr hq)⟩
  · exact Or.inr ⟨q, (e q).mp h1, by rw [← hc]; exact h2, by rw [← hc]; exact h3, fun z hz => by rw [← hc, ← hc]; exact h4 z ((e z).mpr hz)⟩
theorem BO.emp (h : ∀ q, ¬ S q) : BO S c p b b := Or.inl ⟨rfl, fun q hq => absurd hq (h q)⟩
theorem BO.one (e : List Nat) : BO (fun q => q = e) c p b (if c e < b.1 then (c e, p ++ e) else b) := by
  by_cases h : c e < b.1
  · rw [if_pos h]; exact Or.inr ⟨e, rfl, rfl, h, fun z hz => by rw [hz]; exact Or.inr ⟨rfl, Or.inl rfl⟩⟩
  · rw [if_neg h]; exact Or.inl ⟨rfl, fun q hq => by rw [hq]; omega⟩
theorem BO.add (h1 : BO S1 c p b R1) (h2 : BO S2 c p R1 R2) (hx : ∀ q1 q2, S1 q1 → S2 q2 → lx q1 q2) : BO (fun q => S1 q ∨ S2 q) c p b R2 := by
  rcases h1 with ⟨e1, a1⟩ | ⟨q1, s1, e1, l1, m1⟩
  · subst e1
    rcases h2 with ⟨e2, a2⟩ | ⟨q2, s2, e2, l2, m2⟩
    · refine Or.inl ⟨e2, fun q hq => ?_⟩
      rcases hq with hq | hq
      · exact a1 q hq
      · exact a2 q hq
    · refine Or.inr ⟨q2, Or.inr s2, e2, l2, fun z hz => ?_⟩
      rcases hz with hz | hz
      · left; exact Nat.lt_of_lt_of_le l2 (a1 z hz)
      · exact m2 z hz
  · subst e1
    rcases h2 with ⟨e2, a2⟩ | ⟨q2, s2, e2, l2, m2⟩
    · refine Or.inr ⟨q1, Or.inl s1, e2, l1, fun z hz => ?_⟩
      rcases hz with hz | hz
      · exact m1 z hz
      · have h : c q1 ≤ c z := a2 z hz
        by_cases q : c q1 = c z
        · exact Or.inr ⟨q, Or.inr (hx _ _ s1 hz)⟩
        · left; omega
    · have l2 : c q2 < c q1 := l2
      refine Or.inr ⟨q2, Or.inr s2, e2, by omega, fun z hz => ?_⟩
      rcases hz with hz | hz
      · left
        rcases m1 z hz with y | ⟨y, _⟩ <;> omega
      · exact m2 z hz
theorem BO.uniq (h1 : BO S c p b R1) (h2 : BO S c p b R2) : R1 = R2 := by
  rcases h1 with ⟨e1, a1⟩ | ⟨q1, s1, e1, l1, m1⟩
  · rcases h2 with ⟨e2, a2⟩ | ⟨q2, s2, e2, l2, m2⟩
    · rw [e1, e2]
    · have := a1 q2 s2; omega
  · rcases h2 with ⟨e2, a2⟩ | ⟨q2, s2, e2, l2, m2⟩
    · have := a2 q1 s1; omega
    · rcases m1 q2 s2 with y | ⟨y, y2⟩
      · rcases m2 q1 s1 with w | ⟨w, _⟩ <;> omega
      · rcases m2 q1 s1 with w | ⟨w, w2⟩
        · omega
        · rcases y2 with y2 | y2
          · rw [e1, e2, y2]
          · rcases w2 with w2 | w2
            · rw [e1, e2, w2]
            · exact absurd (lx_tr _ _ _ y2 w2) (lx_irr _)
theorem BO.cons {k : Nat} (h : BO S c (p ++ [k]) b R) (hc : ∀ q, c2 (k :: q) = c q) : BO (fun q => ∃ q2, q = k :: q2 ∧ S q2) c2 p b R := by
  rcases h with ⟨e, a⟩ | ⟨q, s, e, l, m⟩
  · refine Or.inl ⟨e, fun q hq => ?_⟩
    obtain ⟨q2, rfl, hq⟩ := hq
    rw [hc]; exact a q2 hq
  · refine Or.inr ⟨k :: q, ⟨q, rfl, s⟩, by rw [e, hc]; simp, by rw [hc]; exact l, fun z hz => ?_⟩
    obtain ⟨q2, rfl, hq⟩ := hz
    rw [hc, hc]
    rcases m q2 hq with y | ⟨y, y2⟩
    · exact Or.inl y
    · refine Or.inr ⟨y, ?_⟩
      rcases y2 with y2 | y2
      · left; rw [y2]
      · right; exact Or.inr ⟨rfl, y2⟩
end BOS
theorem sum0_get : ∀ (l : List Nat), l.sum = 0 → ∀ k, l.getD k 0 = 0
  | [], _, k => by simp
  | x :: t, h, 0 => by simp at h; simp [h]
  | x :: t, h, k + 1 => by
    simp only [List.sum_cons] at h
    have := sum0_get t (by omega) k
    simpa [List.getD] using this
theorem ordF_BO {L : Les} (hK : (Lm L).length ≤ 6) (s f : Nat) : ∀ n cl p r lost b, tot cl (Lm L).length n → BO (fun q => q.length = n ∧ ∀ x, ct x q = cl.getD x 0) (fun q => lost + runL L s f q r) p b (ordF L s f n cl p r lost b)
  | 0, cl, p, r, lost, b, h => by
    have h1 := BO.one (c := fun q => lost + runL L s f q r) (p := p) (b := b) []
    have e : ordF L s f 0 cl p r lost b = if lost + runL L s f [] r < b.1 then (lost + runL L s f [] r, p ++ []) else b := by rw [List.append_nil]; rfl
    rw [e]
    refine h1.cg (fun q => ⟨fun hq => ?_, fun hq => List.length_eq_zero_iff.mp hq.1⟩) (fun q => rfl)
    rw [hq]
    exact ⟨rfl, fun x => (sum0_get cl h.2.1 x).symm⟩
  | n + 1, cl, p, r, lost, b, h => by
    rw [ordF_succ]
    have key : ∀ K, K ≤ (Lm L).length → BO (fun q => ∃ k q2, q = k :: q2 ∧ k < K ∧ q2.length = n ∧ ∀ x, ct x (k :: q2) = cl.getD x 0) (fun q => lost + runL L s f q r) p b (foldK (ordG L s f n cl p r lost) K b) := by
      intro K
      induction K with
      | zero => exact fun _ => BO.emp (fun q hq => by obtain ⟨k, q2, _, hk, _⟩ := hq; omega)
      | succ K ih =>
        intro hKl
        have h1 := ih (by omega)
        have h2 : BO (fun q => ∃ q2, q = K :: q2 ∧ q2.length = n ∧ ∀ x, ct x (K :: q2) = cl.getD x 0) (fun q => lost + runL L s f q r) p (foldK (ordG L s f n cl p r lost) K b) (ordG L s f n cl p r lost K (foldK (ordG L s f n cl p r lost) K b)) := by
          unfold ordG
          by_cases hc : 0 < cl.getD K 0
          · rw [if_pos hc]
            have h3 := ordF_BO hK s f n (decL cl K) (p ++ [K]) (dayR L s f K r) (lost + lo L K (does L s f K r)) (foldK (ordG L s f n cl p r lost) K b) (h.dec hc (by omega))
            refine (h3.cons (c2 := fun q => lost + runL L s f q r) (fun q => by show lost + (lo L K (does L s f K r) + runL L s f q (dayR L s f K r)) = _; omega)).cg (fun q => ?_) (fun q => rfl)
            have hd : ∀ x, (decL cl K).getD x 0 = if x = K then cl.getD K 0 - 1 else cl.getD x 0 := fun x => by unfold decL; rw [getD_setN _ _ _ _ (by have := h.1; omega)]
            constructor
            · rintro ⟨q2, e, e2, e3⟩
              refine ⟨q2, e, e2, fun x => ?_⟩
              have := e3 x
              rw [hd] at this
              simp only [ct]
              by_cases z : K = x
              · subst z; rw [if_pos rfl] at this ⊢; omega
              · rw [if_neg (fun w => z w.symm)] at this; rw [if_neg z]; omega
            · rintro ⟨q2, e, e2, e3⟩
              refine ⟨q2, e, e2, fun x => ?_⟩
              have := e3 x
              rw [hd]
              simp only [ct] at this
              by_cases z : K = x
              · subst z; rw [if_pos rfl] at this ⊢; omega
              · rw [if_neg z] at this; rw [if_neg (fun w => z w.symm)]; omega
          · rw [if_neg hc]
            refine BO.emp (fun q hq => ?_)
            obtain ⟨q2, _, _, e3⟩ := hq
            have := e3 K
            simp only [ct, if_true] at this; omega
        refine (h1.add h2 (fun q1 q2 a1 a2 => ?_)).cg (fun q => ?_) (fun q => rfl)
        · obtain ⟨k, w1, rfl, hk, _⟩ := a1
          obtain ⟨w2, rfl, _⟩ := a2
          exact Or.inl hk
        · constructor
          · rintro (⟨k, q2, e, hk, e2⟩ | ⟨q2, e, e2⟩)
            · exact ⟨k, q2, e, by omega, e2⟩
            · exact ⟨K, q2, e, by omega, e2⟩
          · rintro ⟨k, q2, e, hk, e2⟩
            by_cases z : k = K
            · subst z; exact Or.inr ⟨q2, e, e2⟩
            · exact Or.inl ⟨k, q2, e, by omega, e2⟩
    refine (key (Lm L).length (Nat.le_refl _)).cg (fun q => ?_) (fun q => rfl)
    constructor
    · rintro ⟨k, q2, rfl, _, e1, e2⟩
      exact ⟨by simp [e1], e2⟩
    · rintro ⟨e1, e2⟩
      cases q with
      | nil => simp at e1
      | cons k q2 =>
        refine ⟨k, q2, rfl, ?_, by simpa using e1, e2⟩
        have := e2 k
        simp only [ct, if_true] at this
        apply Decidable.byContradiction
        intro z
        have := h.2.2 k (by omega)
        omega
theorem cnt_ct : ∀ (row : List Nat) (cl : List Nat), cl.length = 6 → (∀ k ∈ row, k < 6) → ∀ x, (row.foldl incL cl).getD x 0 = cl.getD x 0 + ct x row
  | [], cl, _, _, x => rfl
  | k :: t, cl, hl, hr, x => by
    have hk := hr k List.mem_cons_self
    have := cnt_ct t (incL cl k) (by rw [incL_len]; exact hl) (fun j hj => hr j (List.mem_cons_of_mem _ hj)) x
    show (t.foldl incL (incL cl k)).getD x 0 = _
    rw [this]
    unfold incL
    rw [getD_setN _ _ _ _ (by omega)]
    simp only [ct]
    by_cases z : k = x
    · subst z; rw [if_pos rfl, if_pos rfl]; omega
    · rw [if_neg (fun w => z w.symm), if_neg z]; omega
/-- the same things in another order -/
def PC (row q : List Nat) : Prop := q.length = row.length ∧ ∀ x, ct x q = ct x row
theorem PC.mem {row q : List Nat} (h : PC row q) {k : Nat} (hk : k ∈ q) : k ∈ row := ct_mem (by rw [← h.2]; exact mem_ct hk)
def lossQ (A : AS) (q : List Nat) : Nat := runL (AL A) (Lsort (AL A)) (Lfirst (AL A)) q (AM A).1
theorem ordB_BO {A : AS} (ok : ASOK A) : BO (PC (Lrow (AL A))) (lossQ A) [] (1000000, []) (ordB A) := by
  have hK := ok.L.k
  have h := ordF_BO hK (Lsort (AL A)) (Lfirst (AL A)) (Lrow (AL A)).length (cntL (Lrow (AL A))) [] (AM A).1 0 (1000000, []) (tot_cnt hK (fun k hk => ok.L.2.2.1.2 k hk))
  refine h.cg (fun q => ?_) (fun q => Nat.zero_add _)
  have e : ∀ x, (cntL (Lrow (AL A))).getD x 0 = ct x (Lrow (AL A)) := fun x => by
    have := cnt_ct (Lrow (AL A)) (List.replicate 6 0) (by simp) (fun k hk => by have := ok.L.2.2.1.2 k hk; omega) x
    unfold cntL
    rw [this]
    have : (List.replicate 6 0).getD x 0 = 0 := by simp only [List.getD, List.getElem?_replicate]; split <;> rfl
    omega
  constructor
  · rintro ⟨a, b⟩; exact ⟨a, fun x => by rw [b, e]⟩
  · rintro ⟨a, b⟩; exact ⟨a, fun x => by rw [b, e]⟩
/-! two places changed -/
def swp (e : List Nat) (a b : Nat) : List Nat := (e.set a (e.getD b 0)).set b (e.getD a 0)
theorem swp_len (e : List Nat) (a b : Nat) : (swp e a b).length = e.length := by unfold swp; rw [List.length_set, List.length_set]
theorem swp_get {e : List Nat} {a b : Nat} (ha : a < e.length) (hb : b < e.length) (i : Nat) : (swp e a b).getD i 0 = if i = b then e.getD a 0 else if i = a then e.getD b 0 else e.getD i 0 := by
  unfold swp
  rw [getD_setN _ _ _ _ (by rw [List.length_set]; exact hb), getD_setN _ _ _ _ ha]
theorem ct_set (x : Nat) : ∀ (l : List Nat) (i v : Nat), i < l.length → ct x (l.set i v) + (if l.getD i 0 = x then 1 else 0) = ct x l + (if v = x then 1 else 0)
  | [], i, v, h => absurd h (Nat.not_lt_zero _)
  | a :: t, 0, v, h => by simp [List.getD, ct]; omega
  | a :: t, i + 1, v, h => by
    have h1 := ct_set x t i v (by simpa using h)
    have e : (a :: t).getD (i + 1) 0 = t.getD i 0 := by simp [List.getD]
    rw [e]
    simp only [List.set_cons_succ, ct]; omega
theorem swp_ct {e : List Nat} {a b : Nat} (ha : a < e.length) (hb : b < e.length) (x : Nat) : ct x (swp e a b) = ct x e := by
  have h1 := ct_set x e a (e.getD b 0) ha
  have h2 := ct_set x (e.set a (e.getD b 0)) b (e.getD a 0) (by rw [List.length_set]; exact hb)
  have h3 : (e.set a (e.getD b 0)).getD b 0 = e.getD b 0 := by
    rw [getD_setN _ _ _ _ ha]; split
    · rfl
    · rfl
  rw [h3] at h2
  unfold swp; omega
theorem PC.swp {row e : List Nat} (h : PC row e) {a b : Nat} (ha : a < e.length) (hb : b < e.length) : PC row (swp e a b) := ⟨(swp_len e a b).trans h.1, fun x => (swp_ct ha hb x).trans (h.2 x)⟩
theorem pw_of {R : Nat → Nat → Prop} {l : List Nat} (h : ∀ i j, i < j → j < l.length → R (l.getD i 0) (l.getD j 0)) : l.Pairwise R := by
  rw [List.pairwise_iff_getElem]
  intro i j hi hj hij
  have := h i j hij hj
  simpa [List.getD, hi, hj] using this
theorem getD_drop (l : List Nat) (k i : Nat) : (l.drop k).getD i 0 = l.getD (k + i) 0 := by simp [List.getD, List.getElem?_drop]
theorem dc_pair {e : List Nat} {k : Nat} (h : ∀ i, k ≤ i → i + 1 < e.length → e.getD (i + 1) 0 ≤ e.getD i 0) : ∀ d i, k ≤ i → i + d < e.length → e.getD (i + d) 0 ≤ e.getD i 0
  | 0, i, _, _ => Nat.le_refl _
  | d + 1, i, hk, hi => Nat.le_trans (h (i + d) (by omega) (by omega)) (dc_pair h d i hk (by omega))
/-- the row that comes next -/
def Nxt (e e2 : List Nat) : Prop := lx e e2 ∧ PC e e2 ∧ ∀ q, PC e q → lx e q → q = e2 ∨ lx e2 q
theorem Nxt.of {e e2 : List Nat} {k : Nat} (hk : k < e.length) (hp : PC e e2) (h1 : ∀ i, i < k → e2.getD i 0 = e.getD i 0) (h2 : e.getD k 0 < e2.getD k 0) (h3 : ∀ i, k < i → i + 1 < e.length → e.getD (i + 1) 0 ≤ e.getD i 0) (h4 : ∀ i j, k < i → i < j → j < e.length → e2.getD i 0 ≤ e2.getD j 0) (h5 : ∀ i, k < i → i < e.length → e.getD k 0 < e.getD i 0 → e2.getD k 0 ≤ e.getD i 0) : Nxt e e2 := by
  have hl : e2.length = e.length := hp.1
  have s1 : e = e.take k ++ e.getD k 0 :: e.drop (k + 1) := by rw [← drop_cons hk, List.take_append_drop]
  have s2 : e2 = e.take k ++ e2.getD k 0 :: e2.drop (k + 1) := by
    have : e2.take k = e.take k := by
      apply List.ext_getElem?
      intro i
      by_cases q : i < k
      · rw [List.getElem?_take_of_lt q, List.getElem?_take_of_lt q, getD_some (by omega), getD_some (by omega), h1 i q]
      · rw [List.getElem?_eq_none (by rw [List.length_take]; omega), List.getElem?_eq_none (by rw [List.length_take]; omega)]
    rw [← this, ← drop_cons (by omega), List.take_append_drop]
  have pS : (e.drop (k + 1)).Pairwise (fun a b => b ≤ a) := pw_of (fun i j hij hj => by
    rw [List.length_drop] at hj
    rw [getD_drop, getD_drop]
    have := dc_pair (k := k + 1) (fun i hi hi2 => h3 i (by omega) hi2) (j - i) (k + 1 + i) (by omega) (by omega)
    rwa [show k + 1 + i + (j - i) = k + 1 + j from by omega] at this)
  have pT : (e2.drop (k + 1)).Pairwise (fun a b => a ≤ b) := pw_of (fun i j hij hj => by
    rw [List.length_drop] at hj
    rw [getD_drop, getD_drop]
    exact h4 _ _ (by omega) (by omega) (by omega))
  have hm : ∀ x ∈ e.drop (k + 1), e.getD k 0 < x → e2.getD k 0 ≤ x := fun x hx hlt => by
    obtain ⟨i, hi⟩ := List.mem_iff_getElem?.mp hx
    have hi2 := (List.getElem?_eq_some_iff.mp hi).1
    rw [List.length_drop] at hi2
    have e9 : e.getD (k + 1 + i) 0 = x := by rw [← getD_drop]; simp [List.getD, hi]
    rw [← e9] at hlt ⊢
    exact h5 _ (by omega) (by omega) hlt
  refine ⟨?_, hp, fun q hq hlt => ?_⟩
  · rw [s1, s2]
    have := lx_app (e.take k) (e.getD k 0) (e2.getD k 0) (e.drop (k + 1)) (e2.drop (k + 1)) h2
    rwa [← s1, ← s2, ← s1] at *
  · have := nxt_ok (e.take k) (e.getD k 0) (e2.getD k 0) (e.drop (k + 1)) (e2.drop (k + 1)) q pS pT h2 hm (fun x => by rw [← s1, ← s2]; exact hp.2 x) (by rw [List.length_drop, List.length_drop, hl]) (by rw [← s1]; exact hq.1) (fun x => by rw [← s1]; exact hq.2 x) (by rw [← s1]; exact hlt)
    rwa [← s2] at this
theorem last_ok {e : List Nat} (h : ∀ i, i + 1 < e.length → e.getD (i + 1) 0 ≤ e.getD i 0) {q : List Nat} (hq : PC e q) : q = e ∨ lx q e :=
  mxA e q (pw_of (fun i j hij hj => by
    have := dc_pair (k := 0) (fun i _ hi => h i hi) (j - i) i (by omega) (by omega)
    rwa [show i + (j - i) = j from by omega] at this)) hq.1 hq.2
theorem first_ok {e : List Nat} (h : ∀ i j, i < j → j < e.length → e.getD i 0 ≤ e.getD j 0) {q : List Nat} (hq : PC e q) : q = e ∨ lx e q := mnA e q (pw_of h) hq.1 hq.2
theorem lx_enc : ∀ (a b : List Nat) (x y : Nat), a.length = b.length → (∀ d ∈ a, d < 6) → (∀ d ∈ b, d < 6) → x < y ∨ (x = y ∧ lx a b) → a.foldl (fun a d => 6 * a + d) x < b.foldl (fun a d => 6 * a + d) y
  | [], [], x, y, _, _, _, h => by
    rcases h with h | ⟨_, h⟩
    · exact h
    · exact h.elim
  | [], _ :: _, _, _, h, _, _, _ => by simp at h
  | _ :: _, [], _, _, h, _, _, _ => by simp at h
  | c :: a, d :: b, x, y, hl, h1, h2, h => by
    have hc := h1 c List.mem_cons_self
    have hd := h2 d List.mem_cons_self
    refine lx_enc a b (6 * x + c) (6 * y + d) (by simpa using hl) (fun z hz => h1 z (List.mem_cons_of_mem _ hz)) (fun z hz => h2 z (List.mem_cons_of_mem _ hz)) ?_
    rcases h with h | ⟨h, h3 | ⟨h3, h4⟩⟩
    · left; omega
    · left; omega
    · right; exact ⟨by omega, h4⟩

