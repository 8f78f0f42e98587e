
theorem k_all0 {Q : Nat → Prop} : ∀ k, k < 0 → Q k := fun k h => absurd h (by omega)
theorem k_alls {Q : Nat → Prop} {n : Nat} (h : ∀ k, k < n → Q k) (h1 : Q n) : ∀ k, k < n + 1 → Q k := fun k hk => by
  by_cases e : k = n
  · subst e; exact h1
  · exact h k (by omega)
theorem k_fin {ws : va_W} {H : Heap} {A2 : Nat → Prop} {S : f_S} {E : f_E} {σ : f_Mem} (perm : Nat → Nat) (hin : ∀ i j, i < S.1 → j < S.1 → perm i = perm j → i = j) (hk : ∀ k, k < S.1 → ∃ x, ws[perm k]? = some (f_ad E k, x) ∧ (∀ H, va_at E.2.1 vwCl (f_ad E k, x) H → va_at E.2.1 vwCl (f_ad E k, f_cell E S σ k) H)) (hP : va_P E.2.1 vwCl ws H) (hD : va_D A2 ws) : f_P E S σ H ∧ f_I E S ∧ ∀ k, k < S.1 → A2 (f_ad E k) := by
  refine ⟨fun k q hq => ?_, fun i j hi hj hij => ?_, fun k h => ?_⟩
  · obtain ⟨h1, rfl⟩ := f_wl_of E S σ hq
    obtain ⟨x, hx, hc⟩ := hk k h1
    exact hc H (hP _ _ hx)
  · obtain ⟨x, hx, -⟩ := hk i hi
    obtain ⟨y, hy, -⟩ := hk j hj
    exact hin i j hi hj (hD.1 _ _ _ _ hx hy hij)
  · obtain ⟨x, hx, -⟩ := hk k h
    exact hD.2 _ _ hx
def pmC (k : Nat) : Nat := if k < 97 then k else if k < 137 then 97 + 5 * (7 - (k - 97) / 5) + (k - 97) % 5 else k
theorem pmC_in : ∀ i j, i < 144 → j < 144 → pmC i = pmC j → i = j := by
  intro i j hi hj h
  unfold pmC at h
  split at h <;> split at h <;> (try split at h) <;> (try split at h) <;> omega

theorem InvC_0 {s5 s6 s7 : f_Mem} (p5 : pr_mem s5) (p6 : pr_shf 8 s6) (p7 : pr_shf 2 s7) : InvC (M_l [fun _ => 0, fun _ => 0, fun _ => 0, fun _ => 0, fun _ => 0, fun _ => 0, fun _ => 0, fun _ => 0, fun _ => 0, fun _ => 0, fun _ => 0, fun _ => 0, fun _ => 0, fun _ => 0, fun _ => 0, fun _ => 0, fun _ => 0, fun _ => 0, fun _ => 0, fun _ => 0, fun _ => 0, fun _ => 0, fun _ => 0, fun _ => 0, fun _ => 0, fun _ => 0, fun _ => 0, fun _ => 0, fun _ => 0, fun _ => 0, fun _ => 0, fun _ => 0, s5 0, s5 1, s5 2, s5 3, s5 4, s6 0, fun j : Nat => iI (39 + 5 * (j : Int)), s6 2, s6 3, s6 4, s6 5, s6 6, s6 7, s6 8, s6 9, s6 10, s6 11, s6 12, s6 13, s6 14, s6 15, s6 16, s6 17, s6 18, s6 19, s6 20, s6 21, s6 22, s6 23, s6 24, s6 25, s6 26, s6 27, s6 28, s6 29, s6 30, s6 31, s6 32, s6 33, s6 34, s6 35, s6 36, s6 37, s6 38, s6 39, s6 40, s6 41, s7 0, fun j : Nat => iI (81 + 5 * (j : Int)), s7 2, s7 3, s7 4, s7 5, s7 6, s7 7, s7 8, s7 9, s7 10, s7 11, fun _ => 0, fun _ => 0, fun _ => 0, fun _ => 0, fun _ => 0, fun _ => 0, fun _ => 0, fun _ => 0, fun _ => 0, fun _ => 0, fun _ => 0, fun _ => 0, fun _ => 0, fun _ => 0, fun _ => 0, fun _ => 0, fun _ => 0, fun _ => 0, fun _ => 0, fun _ => 0, fun _ => 0, fun _ => 0, fun _ => 0, fun _ => 0, fun _ => 0, fun _ => 0, fun _ => 0, fun _ => 0, fun _ => 0, fun _ => 0, fun _ => 0, fun _ => 0, fun _ => 0, fun _ => 0, fun _ => 0, fun _ => 0, fun _ => 0, fun _ => 0, fun _ => 0, fun _ => 0, fun _ => 0, fun _ => 0, fun _ => 0, fun _ => 0, fun _ => 0, fun _ => 0, fun _ => 0, fun _ => 0, fun _ => 0, fun _ => 0, fun _ => 0, fun _ => 0, fun _ => 0]) A1 ∧ Lsn (M_l [fun _ => 0, fun _ => 0, fun _ => 0, fun _ => 0, fun _ => 0, fun _ => 0, fun _ => 0, fun _ => 0, fun _ => 0, fun _ => 0, fun _ => 0, fun _ => 0, fun _ => 0, fun _ => 0, fun _ => 0, fun _ => 0, fun _ => 0, fun _ => 0, fun _ => 0, fun _ => 0, fun _ => 0, fun _ => 0, fun _ => 0, fun _ => 0, fun _ => 0, fun _ => 0, fun _ => 0, fun _ => 0, fun _ => 0, fun _ => 0, fun _ => 0, fun _ => 0, s5 0, s5 1, s5 2, s5 3, s5 4, s6 0, fun j : Nat => iI (39 + 5 * (j : Int)), s6 2, s6 3, s6 4, s6 5, s6 6, s6 7, s6 8, s6 9, s6 10, s6 11, s6 12, s6 13, s6 14, s6 15, s6 16, s6 17, s6 18, s6 19, s6 20, s6 21, s6 22, s6 23, s6 24, s6 25, s6 26, s6 27, s6 28, s6 29, s6 30, s6 31, s6 32, s6 33, s6 34, s6 35, s6 36, s6 37, s6 38, s6 39, s6 40, s6 41, s7 0, fun j : Nat => iI (81 + 5 * (j : Int)), s7 2, s7 3, s7 4, s7 5, s7 6, s7 7, s7 8, s7 9, s7 10, s7 11, fun _ => 0, fun _ => 0, fun _ => 0, fun _ => 0, fun _ => 0, fun _ => 0, fun _ => 0, fun _ => 0, fun _ => 0, fun _ => 0, fun _ => 0, fun _ => 0, fun _ => 0, fun _ => 0, fun _ => 0, fun _ => 0, fun _ => 0, fun _ => 0, fun _ => 0, fun _ => 0, fun _ => 0, fun _ => 0, fun _ => 0, fun _ => 0, fun _ => 0, fun _ => 0, fun _ => 0, fun _ => 0, fun _ => 0, fun _ => 0, fun _ => 0, fun _ => 0, fun _ => 0, fun _ => 0, fun _ => 0, fun _ => 0, fun _ => 0, fun _ => 0, fun _ => 0, fun _ => 0, fun _ => 0, fun _ => 0, fun _ => 0, fun _ => 0, fun _ => 0, fun _ => 0, fun _ => 0, fun _ => 0, fun _ => 0, fun _ => 0, fun _ => 0, fun _ => 0, fun _ => 0]) 3 Lz := by
  generalize hσ : M_l [fun _ => 0, fun _ => 0, fun _ => 0, fun _ => 0, fun _ => 0, fun _ => 0, fun _ => 0, fun _ => 0, fun _ => 0, fun _ => 0, fun _ => 0, fun _ => 0, fun _ => 0, fun _ => 0, fun _ => 0, fun _ => 0, fun _ => 0, fun _ => 0, fun _ => 0, fun _ => 0, fun _ => 0, fun _ => 0, fun _ => 0, fun _ => 0, fun _ => 0, fun _ => 0, fun _ => 0, fun _ => 0, fun _ => 0, fun _ => 0, fun _ => 0, fun _ => 0, s5 0, s5 1, s5 2, s5 3, s5 4, s6 0, fun j : Nat => iI (39 + 5 * (j : Int)), s6 2, s6 3, s6 4, s6 5, s6 6, s6 7, s6 8, s6 9, s6 10, s6 11, s6 12, s6 13, s6 14, s6 15, s6 16, s6 17, s6 18, s6 19, s6 20, s6 21, s6 22, s6 23, s6 24, s6 25, s6 26, s6 27, s6 28, s6 29, s6 30, s6 31, s6 32, s6 33, s6 34, s6 35, s6 36, s6 37, s6 38, s6 39, s6 40, s6 41, s7 0, fun j : Nat => iI (81 + 5 * (j : Int)), s7 2, s7 3, s7 4, s7 5, s7 6, s7 7, s7 8, s7 9, s7 10, s7 11, fun _ => 0, fun _ => 0, fun _ => 0, fun _ => 0, fun _ => 0, fun _ => 0, fun _ => 0, fun _ => 0, fun _ => 0, fun _ => 0, fun _ => 0, fun _ => 0, fun _ => 0, fun _ => 0, fun _ => 0, fun _ => 0, fun _ => 0, fun _ => 0, fun _ => 0, fun _ => 0, fun _ => 0, fun _ => 0, fun _ => 0, fun _ => 0, fun _ => 0, fun _ => 0, fun _ => 0, fun _ => 0, fun _ => 0, fun _ => 0, fun _ => 0, fun _ => 0, fun _ => 0, fun _ => 0, fun _ => 0, fun _ => 0, fun _ => 0, fun _ => 0, fun _ => 0, fun _ => 0, fun _ => 0, fun _ => 0, fun _ => 0, fun _ => 0, fun _ => 0, fun _ => 0, fun _ => 0, fun _ => 0, fun _ => 0, fun _ => 0, fun _ => 0, fun _ => 0, fun _ => 0] = σ
  have nz : ∀ n cap, isNum n cap → σ n 1 = 0 → Num σ n cap [] := fun n cap hi h0 => ⟨hi, h0, Nat.zero_le _, fun i v h => by simp at h⟩
  have m6 : ∀ n, isMem n → σ (n + 1) 1 = 0 → σ (n + 3) 1 = 6 → (∀ i, σ (n + 4) i = 0) → σ n 2 = 0 → σ n 3 = 0 → σ n 4 = 0 → Mm σ n M00 := fun n hi h1 h2 h3 h4 h5 h6 => by
    refine ⟨hi, nz _ _ hi.words h1, ⟨hi.handed, h2, by decide, fun i v h => ?_⟩, rfl, h4, h5, h6⟩
    have hv : v = 0 := by
      have := List.mem_of_getElem? h
      exact List.eq_of_mem_replicate this
    subst hv
    exact h3 i
  have mx : ∀ n, Mm σ n M00 → MmX σ n := fun n h => ⟨h.1, ⟨_, h.2.1⟩, ⟨_, h.2.2.1⟩⟩
  have lz : ∀ n, isLsn n → (∀ k, k < 6 → σ (n + 1 + 2 * k) 1 = 0) → σ n 6 = 0 → σ n 7 = 0 → Lsn σ n Lz := fun n hi h1 h2 h3 => ⟨hi, nz _ _ hi.marks (h1 0 (by decide)), nz _ _ hi.right (h1 1 (by decide)), nz _ _ hi.spoil (h1 2 (by decide)), nz _ _ hi.worth (h1 3 (by decide)), nz _ _ hi.chance (h1 4 (by decide)), nz _ _ hi.row (h1 5 (by decide)), h2, h3⟩
  have z3 : Lsn σ 3 Lz := lz 3 sh_told (by subst hσ; intro k hk; match k, hk with
    | 0, _ => rfl
    | 1, _ => rfl
    | 2, _ => rfl
    | 3, _ => rfl
    | 4, _ => rfl
    | 5, _ => rfl) (by subst hσ; rfl) (by subst hσ; rfl)
  have z19 : Lsn σ 19 Lz := lz 19 sh_laid (by subst hσ; intro k hk; match k, hk with
    | 0, _ => rfl
    | 1, _ => rfl
    | 2, _ => rfl
    | 3, _ => rfl
    | 4, _ => rfl
    | 5, _ => rfl) (by subst hσ; rfl) (by subst hσ; rfl)
  have k32 : Mm σ 32 M00 := m6 32 sh_memory (by subst hσ; exact congrFun (p5).2.1 1) (by subst hσ; exact (p5).2.2.2.1) (by subst hσ; exact (p5).2.2.2.2) (by subst hσ; exact congrFun (p5).1 2) (by subst hσ; exact congrFun (p5).1 3) (by subst hσ; exact congrFun (p5).1 4)
  have kp0 : Mm σ 39 M00 := m6 39 (sh_pastM 0 (by decide)) (by subst hσ; exact congrFun (p6.2.2 0 (by decide)).2.1 1) (by subst hσ; exact (p6.2.2 0 (by decide)).2.2.2.1) (by subst hσ; exact (p6.2.2 0 (by decide)).2.2.2.2) (by subst hσ; exact congrFun (p6.2.2 0 (by decide)).1 2) (by subst hσ; exact congrFun (p6.2.2 0 (by decide)).1 3) (by subst hσ; exact congrFun (p6.2.2 0 (by decide)).1 4)
  have kp1 : Mm σ 44 M00 := m6 44 (sh_pastM 1 (by decide)) (by subst hσ; exact congrFun (p6.2.2 1 (by decide)).2.1 1) (by subst hσ; exact (p6.2.2 1 (by decide)).2.2.2.1) (by subst hσ; exact (p6.2.2 1 (by decide)).2.2.2.2) (by subst hσ; exact congrFun (p6.2.2 1 (by decide)).1 2) (by subst hσ; exact congrFun (p6.2.2 1 (by decide)).1 3) (by subst hσ; exact congrFun (p6.2.2 1 (by decide)).1 4)
  have kp2 : Mm σ 49 M00 := m6 49 (sh_pastM 2 (by decide)) (by subst hσ; exact congrFun (p6.2.2 2 (by decide)).2.1 1) (by subst hσ; exact (p6.2.2 2 (by decide)).2.2.2.1) (by subst hσ; exact (p6.2.2 2 (by decide)).2.2.2.2) (by subst hσ; exact congrFun (p6.2.2 2 (by decide)).1 2) (by subst hσ; exact congrFun (p6.2.2 2 (by decide)).1 3) (by subst hσ; exact congrFun (p6.2.2 2 (by decide)).1 4)
  have kp3 : Mm σ 54 M00 := m6 54 (sh_pastM 3 (by decide)) (by subst hσ; exact congrFun (p6.2.2 3 (by decide)).2.1 1) (by subst hσ; exact (p6.2.2 3 (by decide)).2.2.2.1) (by subst hσ; exact (p6.2.2 3 (by decide)).2.2.2.2) (by subst hσ; exact congrFun (p6.2.2 3 (by decide)).1 2) (by subst hσ; exact congrFun (p6.2.2 3 (by decide)).1 3) (by subst hσ; exact congrFun (p6.2.2 3 (by decide)).1 4)
  have kp4 : Mm σ 59 M00 := m6 59 (sh_pastM 4 (by decide)) (by subst hσ; exact congrFun (p6.2.2 4 (by decide)).2.1 1) (by subst hσ; exact (p6.2.2 4 (by decide)).2.2.2.1) (by subst hσ; exact (p6.2.2 4 (by decide)).2.2.2.2) (by subst hσ; exact congrFun (p6.2.2 4 (by decide)).1 2) (by subst hσ; exact congrFun (p6.2.2 4 (by decide)).1 3) (by subst hσ; exact congrFun (p6.2.2 4 (by decide)).1 4)
  have kp5 : Mm σ 64 M00 := m6 64 (sh_pastM 5 (by decide)) (by subst hσ; exact congrFun (p6.2.2 5 (by decide)).2.1 1) (by subst hσ; exact (p6.2.2 5 (by decide)).2.2.2.1) (by subst hσ; exact (p6.2.2 5 (by decide)).2.2.2.2) (by subst hσ; exact congrFun (p6.2.2 5 (by decide)).1 2) (by subst hσ; exact congrFun (p6.2.2 5 (by decide)).1 3) (by subst hσ; exact congrFun (p6.2.2 5 (by decide)).1 4)
  have kp6 : Mm σ 69 M00 := m6 69 (sh_pastM 6 (by decide)) (by subst hσ; exact congrFun (p6.2.2 6 (by decide)).2.1 1) (by subst hσ; exact (p6.2.2 6 (by decide)).2.2.2.1) (by subst hσ; exact (p6.2.2 6 (by decide)).2.2.2.2) (by subst hσ; exact congrFun (p6.2.2 6 (by decide)).1 2) (by subst hσ; exact congrFun (p6.2.2 6 (by decide)).1 3) (by subst hσ; exact congrFun (p6.2.2 6 (by decide)).1 4)
  have kp7 : Mm σ 74 M00 := m6 74 (sh_pastM 7 (by decide)) (by subst hσ; exact congrFun (p6.2.2 7 (by decide)).2.1 1) (by subst hσ; exact (p6.2.2 7 (by decide)).2.2.2.1) (by subst hσ; exact (p6.2.2 7 (by decide)).2.2.2.2) (by subst hσ; exact congrFun (p6.2.2 7 (by decide)).1 2) (by subst hσ; exact congrFun (p6.2.2 7 (by decide)).1 3) (by subst hσ; exact congrFun (p6.2.2 7 (by decide)).1 4)
  have kk0 : Mm σ 81 M00 := m6 81 (sh_keptM 0 (by decide)) (by subst hσ; exact congrFun (p7.2.2 0 (by decide)).2.1 1) (by subst hσ; exact (p7.2.2 0 (by decide)).2.2.2.1) (by subst hσ; exact (p7.2.2 0 (by decide)).2.2.2.2) (by subst hσ; exact congrFun (p7.2.2 0 (by decide)).1 2) (by subst hσ; exact congrFun (p7.2.2 0 (by decide)).1 3) (by subst hσ; exact congrFun (p7.2.2 0 (by decide)).1 4)
  have kk1 : Mm σ 86 M00 := m6 86 (sh_keptM 1 (by decide)) (by subst hσ; exact congrFun (p7.2.2 1 (by decide)).2.1 1) (by subst hσ; exact (p7.2.2 1 (by decide)).2.2.2.1) (by subst hσ; exact (p7.2.2 1 (by decide)).2.2.2.2) (by subst hσ; exact congrFun (p7.2.2 1 (by decide)).1 2) (by subst hσ; exact congrFun (p7.2.2 1 (by decide)).1 3) (by subst hσ; exact congrFun (p7.2.2 1 (by decide)).1 4)
  have s37 : Shf σ 37 8 [39, 44, 49, 54, 59, 64, 69, 74] [] := by
    refine ⟨sh_past, by subst hσ; exact congrFun p6.1 1, Nat.zero_le _, rfl, by decide, ?_, ?_, ?_, fun i M h => by simp at h⟩
    · intro x hx
      simp only [List.mem_cons, List.not_mem_nil, or_false] at hx
      rcases hx with rfl | rfl | rfl | rfl | rfl | rfl | rfl | rfl
      · exact ⟨0, by decide, rfl⟩
      · exact ⟨1, by decide, rfl⟩
      · exact ⟨2, by decide, rfl⟩
      · exact ⟨3, by decide, rfl⟩
      · exact ⟨4, by decide, rfl⟩
      · exact ⟨5, by decide, rfl⟩
      · exact ⟨6, by decide, rfl⟩
      · exact ⟨7, by decide, rfl⟩
    · intro i hi
      subst hσ
      match i, hi with
      | 0, _ => rfl
      | 1, _ => rfl
      | 2, _ => rfl
      | 3, _ => rfl
      | 4, _ => rfl
      | 5, _ => rfl
      | 6, _ => rfl
      | 7, _ => rfl
    · intro x hx
      simp only [List.mem_cons, List.not_mem_nil, or_false] at hx
      rcases hx with rfl | rfl | rfl | rfl | rfl | rfl | rfl | rfl
      · exact mx _ kp0
      · exact mx _ kp1
      · exact mx _ kp2
      · exact mx _ kp3
      · exact mx _ kp4
      · exact mx _ kp5
      · exact mx _ kp6
      · exact mx _ kp7
  have s79 : Shf σ 79 2 [81, 86] [] := by
    refine ⟨sh_kept, by subst hσ; exact congrFun p7.1 1, Nat.zero_le _, rfl, by decide, ?_, ?_, ?_, fun i M h => by simp at h⟩
    · intro x hx
      simp only [List.mem_cons, List.not_mem_nil, or_false] at hx
      rcases hx with rfl | rfl
      · exact ⟨0, by decide, rfl⟩
      · exact ⟨1, by decide, rfl⟩
    · intro i hi
      subst hσ
      match i, hi with
      | 0, _ => rfl
      | 1, _ => rfl
    · intro x hx
      simp only [List.mem_cons, List.not_mem_nil, or_false] at hx
      rcases hx with rfl | rfl
      · exact mx _ kk0
      · exact mx _ kk1
  have zl : ∀ j, j < 8 → LrX σ (97 + 5 * j) (lrnB j) := by
    intro j hj
    have hi := sh_lrn j hj
    refine ⟨hi, ⟨[], nz _ _ hi.latest ?_⟩, ⟨[], nz _ _ hi.doing ?_⟩⟩
    · subst hσ
      match j, hj with
      | 0, _ => rfl
      | 1, _ => rfl
      | 2, _ => rfl
      | 3, _ => rfl
      | 4, _ => rfl
      | 5, _ => rfl
      | 6, _ => rfl
      | 7, _ => rfl
    · subst hσ
      match j, hj with
      | 0, _ => rfl
      | 1, _ => rfl
      | 2, _ => rfl
      | 3, _ => rfl
      | 4, _ => rfl
      | 5, _ => rfl
      | 6, _ => rfl
      | 7, _ => rfl
  exact ⟨⟨nz 1 _ sh_text (by subst hσ; rfl), z19, k32, ⟨_, s37⟩, ⟨_, s79⟩, nz 91 _ sh_seen (by subst hσ; rfl), ⟨_, z3⟩, ⟨_, nz 17 _ sh_numbers (by subst hσ; rfl)⟩, ⟨_, nz 93 _ sh_times (by subst hσ; rfl)⟩, ⟨_, nz 95 _ sh_alike (by subst hσ; rfl)⟩, zl, ⟨_, nz 138 _ sh_left (by subst hσ; rfl)⟩, ⟨_, nz 140 _ sh_tried (by subst hσ; rfl)⟩, ⟨_, nz 142 _ sh_best (by subst hσ; rfl)⟩⟩, z3⟩
