
theorem k_all0 {Q : Nat → Prop} : ∀ k, k < 0 → Q k := fun k h => absurd h (by omega)
theorem k_alls {Q : Nat → Prop} {n : Nat} (h : ∀ k, k < n → Q k) (h1 : Q n) : ∀ k, k < n + 1 → Q k := fun k hk => by
  by_cases e : k = n
  · subst e; exact h1
  · exact h k (by omega)
theorem k_fin {ws : va_W} {H : Heap} {A2 : Nat → Prop} {S : f_S} {E : f_E} {σ : f_Mem} (perm : Nat → Nat) (hin : ∀ i j, i < S.1 → j < S.1 → perm i = perm j → i = j) (hk : ∀ k, k < S.1 → ∃ x, ws[perm k]? = some (f_ad E k, x) ∧ (∀ H, va_at E.2.1 vwCl (f_ad E k, x) H → va_at E.2.1 vwCl (f_ad E k, f_cell E S σ k) H)) (hP : va_P E.2.1 vwCl ws H) (hD : va_D A2 ws) : f_P E S σ H ∧ f_I E S ∧ ∀ k, k < S.1 → A2 (f_ad E k) := by
  refine ⟨fun k q hq => ?_, fun i j hi hj hij => ?_, fun k h => ?_⟩
  · obtain ⟨h1, rfl⟩ := f_wl_of E S σ hq
    obtain ⟨x, hx, hc⟩ := hk k h1
    exact hc H (hP _ _ hx)
  · obtain ⟨x, hx, -⟩ := hk i hi
    obtain ⟨y, hy, -⟩ := hk j hj
    exact hin i j hi hj (hD.1 _ _ _ _ hx hy hij)
  · obtain ⟨x, hx, -⟩ := hk k h
    exact hD.2 _ _ hx
def pmC (k : Nat) : Nat := if k < 97 then k else if k < 137 then 97 + 5 * (7 - (k - 97) / 5) + (k - 97) % 5 else k
theorem pmC_in : ∀ i j, i < 144 → j < 144 → pmC i = pmC j → i = j := by
  intro i j hi hj h
  unfold pmC at h
  split at h <;> split at h <;> (try split at h) <;> (try split at h) <;> omega

theorem InvC_0 {s5 s6 s7 : f_Mem} (p5 : pr_mem s5) (p6 : pr_shf 8 s6) (p7 : pr_shf 2 s7) : InvC (M_l [fun _ => 0, fun _ => 0, fun _ => 0, fun _ => 0, fun _ => 0, fun _ => 0, fun _ => 0, fun _ => 0, fun _ => 0, fun _ => 0, fun _ => 0, fun _ => 0, fun _ => 0, fun _ => 0, fun _ => 0, fun _ => 0, fun _ => 0, fun _ => 0, fun _ => 0, fun _ => 0, fun _ => 0, fun _ => 0, fun _ => 0, fun _ => 0, fun _ => 0, fun _ => 0, fun _ => 0, fun _ => 0, fun _ => 0, fun _ => 0, fun _ => 0, fun _ => 0, s5 0, s5 1, s5 2, s5 3, s5 4, s6 0, fun j : Nat => iI (39 + 5 * (j : Int)), s6 2, s6 3, s6 4, s6 5, s6 6, s6 7, s6 8, s6 9, s6 10, s6 11, s6 12, s6 13, s6 14, s6 15, s6 16, s6 17, s6 18, s6 19, s6 20, s6 21, s6 22, s6 23, s6 24, s6 25, s6 26, s6 27, s6 28, s6 29, s6 30, s6 31, s6 32, s6 33, s6 34, s6 35, s6 36, s6 37, s6 38, s6 39, s6 40, s6 41, s7 0, fun j : Nat => iI (81 + 5 * (j : Int)), s7 2, s7 3, s7 4, s7 5, s7 6, s7 7, s7 8, s7 9, s7 10, s7 11, fun _ => 0, fun _ => 0, fun _ => 0, fun _ => 0, fun _ => 0, fun _ => 0, fun _ => 0, fun _ => 0, fun _ => 0, fun _ => 0, fun _ => 0, fun _ => 0, fun _ => 0, fun _ => 0, fun _ => 0, fun _ => 0, fun _ => 0, fun _ => 0, fun _ => 0, fun _ => 0, fun _ => 0, fun _ => 0, fun _ => 0, fun _ => 0, fun _ => 0, fun _ => 0, fun _ => 0, fun _ => 0, fun _ => 0, fun _ => 0, fun _ => 0, fun _ => 0, fun _ => 0, fun _ => 0, fun _ => 0, fun _ => 0, fun _ => 0, fun _ => 0, fun _ => 0, fun _ => 0, fun _ => 0, fun _ => 0, fun _ => 0, fun _ => 0, fun _ => 0, fun _ => 0, fun _ => 0, fun _ => 0, fun _ => 0, fun _ => 0, fun _ => 0, fun _ => 0, fun _ => 0]) A1 ∧ Lsn (M_l [fun _ => 0, fun _ => 0, fun _ => 0, fun _ => 0, fun _ => 0, fun _ => 0, fun _ => 0, fun _ => 0, fun _ => 0, fun _ => 0, fun _ => 0, fun _ => 0, fun _ => 0, fun _ => 0, fun _ => 0, fun _ => 0, fun _ => 0, fun _ => 0, fun _ => 0, fun _ => 0, fun _ => 0, fun _ => 0, fun _ => 0, fun _ => 0, fun _ => 0, fun _ => 0, fun _ => 0, fun _ => 0, fun _ => 0, fun _ => 0, fun _ => 0, fun _ => 0, s5 0, s5 1, s5 2, s5 3, s5 4, s6 0, fun j : Nat => iI (39 + 5 * (j : Int)), s6 2, s6 3, s6 4, s6 5, s6 6, s6 7, s6 8, s6 9, s6 10, s6 11, s6 12, s6 13, s6 14, s6 15, s6 16, s6 17, s6 18, s6 19, s6 20, s6 21, s6 22, s6 23, s6 24, s6 25, s6 26, s6 27, s6 28, s6 29, s6 30, s6 31, s6 32, s6 33, s6 34, s6 35, s6 36, s6 37, s6 38, s6 39, s6 40, s6 41, s7 0, fun j : Nat => iI (81 + 5 * (j : Int)), s7 2, s7 3, s7 4, s7 5, s7 6, s7 7, s7 8, s7 9, s7 10, s7 11, fun _ => 0, fun _ => 0, fun _ => 0, fun _ => 0, fun _ => 0, fun _ => 0, fun _ => 0, fun _ => 0, fun _ => 0, fun _ => 0, fun _ => 0, fun _ => 0, fun _ => 0, fun _ => 0, fun _ => 0, fun _ => 0, fun _ => 0, fun _ => 0, fun _ => 0, fun _ => 0, fun _ => 0, fun _ => 0, fun _ => 0, fun _ => 0, fun _ => 0, fun _ => 0, fun _ => 0, fun _ => 0, fun _ => 0, fun _ => 0, fun _ => 0, fun _ => 0, fun _ => 0, fun _ => 0, fun _ => 0, fun _ => 0, fun _ => 0, fun _ => 0, fun _ => 0, fun _ => 0, fun _ => 0, fun _ => 0, fun _ => 0, fun _ => 0, fun _ => 0, fun _ => 0, fun _ => 0, fun _ => 0, fun _ => 0, fun _ => 0, fun _ => 0, fun _ => 0, fun _ => 0]) 3 Lz := by
  generalize hσ : M_l [fun _ => 0, fun _ => 0, fun _ => 0, fun _ => 0, fun _ => 0, fun _ => 0, fun _ => 0, fun _ => 0, fun _ => 0, fun _ => 0, fun _ => 0, fun _ => 0, fun _ => 0, fun _ => 0, fun _ => 0, fun _ => 0, fun _ => 0, fun _ => 0, fun _ => 0, fun _ => 0, fun _ => 0, fun _ => 0, fun _ => 0, fun _ => 0, fun _ => 0, fun _ => 0, fun _ => 0, fun _ => 0, fun _ => 0, fun _ => 0, fun _ => 0, fun _ => 0, s5 0, s5 1, s5 2, s5 3, s5 4, s6 0, fun j : Nat => iI (39 + 5 * (j : Int)), s6 2, s6 3, s6 4, s6 5, s6 6, s6 7, s6 8, s6 9, s6 10, s6 11, s6 12, s6 13, s6 14, s6 15, s6 16, s6 17, s6 18, s6 19, s6 20, s6 21, s6 22, s6 23, s6 24, s6 25, s6 26, s6 27, s6 28, s6 29, s6 30, s6 31, s6 32, s6 33, s6 34, s6 35, s6 36, s6 37, s6 38, s6 39, s6 40, s6 41, s7 0, fun j : Nat => iI (81 + 5 * (j : Int)), s7 2, s7 3, s7 4, s7 5, s7 6, s7 7, s7 8, s7 9, s7 10, s7 11, fun _ => 0, fun _ => 0, fun _ => 0, fun _ => 0, fun _ => 0, fun _ => 0, fun _ => 0, fun _ => 0, fun _ => 0, fun _ => 0, fun _ => 0, fun _ => 0, fun _ => 0, fun _ => 0, fun _ => 0, fun _ => 0, fun _ => 0, fun _ => 0, fun _ => 0, fun _ => 0, fun _ => 0, fun _ => 0, fun _ => 0, fun _ => 0, fun _ => 0, fun _ => 0, fun _ => 0, fun _ => 0, fun _ => 0, fun _ => 0, fun _ => 0, fun _ => 0, fun _ => 0, fun _ => 0, fun _ => 0, fun _ => 0, fun _ => 0, fun _ => 0, fun _ => 0, fun _ => 0, fun _ => 0, fun _ => 0, fun _ => 0, fun _ => 0, fun _ => 0, fun _ => 0, fun _ => 0, fun _ => 0, fun _ => 0, fun _ => 0, fun _ => 0, fun _ => 0, fun _ => 0] = σ
  have nz : ∀ n cap, isNum n cap → σ n 1 = 0 → Num σ n cap [] := fun n cap hi h0 => ⟨hi, h0, Nat.zero_le _, fun i v h => by simp at h⟩
  have m6 : ∀ n, isMem n → σ (n + 1) 1 = 0 → σ (n + 3) 1 = 6 → (∀ i, σ (n + 4) i = 0) → σ n 2 = 0 → σ n 3 = 0 → σ n 4 = 0 → Mm σ n M00 := fun n hi h1 h2 h3 h4 h5 h6 => by
    refine ⟨hi, nz _ _ hi.words h1, ⟨hi.handed, h2, by decide, fun i v h => ?_⟩, rfl, h4, h5, h6⟩
    have hv : v = 0 := by
      have := List.mem_of_getElem? h
      exact List.eq_of_mem_replicate this
    subst hv
    exact h3 i
  have mx : ∀ n, Mm σ n M00 → MmX σ n := fun n h => ⟨h.1, ⟨_, h.2.1⟩, ⟨_, h.2.2.1⟩⟩
  have lz : ∀ n, isLsn n → (∀ k, k < 6 → σ (n + 1 + 2 * k) 1 = 0) → σ n 6 = 0 → σ n 7 = 0 → Lsn σ n Lz := fun n hi h1 h2 h3 => ⟨hi, nz _ _ hi.marks (h1 0 (by decide)), nz _ _ hi.right (h1 1 (by decide)), nz _ _ hi.spoil (h1 2 (by decide)), nz _ _ hi.worth (h1 3 (by decide)), nz _ _ hi.chance (h1 4 (by decide)), nz _ _ hi.row (h1 5 (by decide)), h2, h3⟩
  have z3 : Lsn σ 3 Lz := lz 3 sh_told (by subst hσ; intro k hk; match k, hk with
    | 0, _ => rfl
    | 1, _ => rfl
    | 2, _ => rfl
    | 3, _ => rfl
    | 4, _ => rfl
    | 5, _ => rfl) (by subst hσ; rfl) (by subst hσ; rfl)
  have z19 : Lsn σ 19 Lz := lz 19 sh_laid (by subst hσ; intro k hk; match k, hk with
    | 0, _ => rfl
    | 1, _ => rfl
    | 2, _ => rfl
    | 3, _ => rfl
    | 4, _ => rfl
    | 5, _ => rfl) (by subst hσ; rfl) (by subst hσ; rfl)
  have k32 : Mm σ 32 M00 := m6 32 sh_memory (by subst hσ; exact congrFun (p5).2.1 1) (by subst hσ; exact (p5).2.2.2.1) (by subst hσ; exact (p5).2.2.2.2) (by subst hσ; exact congrFun (p5).1 2) (by subst hσ; exact congrFun (p5).1 3) (by subst hσ; exact congrFun (p5).1 4)
  have kp0 : Mm σ 39 M00 := m6 39 (sh_pastM 0 (by decide)) (by subst hσ; exact congrFun (p6.2.2 0 (by decide)).2.1 1) (by subst hσ; exact (p6.2.2 0 (by decide)).2.2.2.1) (by subst hσ; exact (p6.2.2 0 (by decide)).2.2.2.2) (by subst hσ; exact congrFun (p6.2.2 0 (by decide)).1 2) (by subst hσ; exact congrFun (p6.2.2 0 (by decide)).1 3) (by subst hσ; exact congrFun (p6.2.2 0 (by decide)).1 4)
  have kp1 : Mm σ 44 M00 := m6 44 (sh_pastM 1 (by decide)) (by subst hσ; exact congrFun (p6.2.2 1 (by decide)).2.1 1) (by subst hσ; exact (p6.2.2 1 (by decide)).2.2.2.1) (by subst hσ; exact (p6.2.2 1 (by decide)).2.2.2.2) (by subst hσ; exact congrFun (p6.2.2 1 (by decide)).1 2) (by subst hσ; exact congrFun (p6.2.2 1 (by decide)).1 3) (by subst hσ; exact congrFun (p6.2.2 1 (by decide)).1 4)
  have kp2 : Mm σ 49 M00 := m6 49 (sh_pastM 2 (by decide)) (by subst hσ; exact congrFun (p6.2.2 2 (by decide)).2.1 1) (by subst hσ; exact (p6.2.2 2 (by decide)).2.2.2.1) (by subst hσ; exact (p6.2.2 2 (by decide)).2.2.2.2) (by subst hσ; exact congrFun (p6.2.2 2 (by decide)).1 2) (by subst hσ; exact congrFun (p6.2.2 2 (by decide)).1 3) (by subst hσ; exact congrFun (p6.2.2 2 (by decide)).1 4)
  have kp3 : Mm σ 54 M00 := m6 54 (sh_pastM 3 (by decide)) (by subst hσ; exact congrFun (p6.2.2 3 (by decide)).2.1 1) (by subst hσ; exact (p6.2.2 3 (by decide)).2.2.2.1) (by subst hσ; exact (p6.2.2 3 (by decide)).2.2.2.2) (by subst hσ; exact congrFun (p6.2.2 3 (by decide)).1 2) (by subst hσ; exact congrFun (p6.2.2 3 (by decide)).1 3) (by subst hσ; exact congrFun (p6.2.2 3 (by decide)).1 4)
  have kp4 : Mm σ 59 M00 := m6 59 (sh_pastM 4 (by decide)) (by subst hσ; exact congrFun (p6.2.2 4 (by decide)).2.1 1) (by subst hσ; exact (p6.2.2 4 (by decide)).2.2.2.1) (by subst hσ; exact (p6.2.2 4 (by decide)).2.2.2.2) (by subst hσ; exact congrFun (p6.2.2 4 (by decide)).1 2) (by subst hσ; exact congrFun (p6.2.2 4 (by decide)).1 3) (by subst hσ; exact congrFun (p6.2.2 4 (by decide)).1 4)
  have kp5 : Mm σ 64 M00 := m6 64 (sh_pastM 5 (by decide)) (by subst hσ; exact congrFun (p6.2.2 5 (by decide)).2.1 1) (by subst hσ; exact (p6.2.2 5 (by decide)).2.2.2.1) (by subst hσ; exact (p6.2.2 5 (by decide)).2.2.2.2) (by subst hσ; exact congrFun (p6.2.2 5 (by decide)).1 2) (by subst hσ; exact congrFun (p6.2.2 5 (by decide)).1 3) (by subst hσ; exact congrFun (p6.2.2 5 (by decide)).1 4)
  have kp6 : Mm σ 69 M00 := m6 69 (sh_pastM 6 (by decide)) (by subst hσ; exact congrFun (p6.2.2 6 (by decide)).2.1 1) (by subst hσ; exact (p6.2.2 6 (by decide)).2.2.2.1) (by subst hσ; exact (p6.2.2 6 (by decide)).2.2.2.2) (by subst hσ; exact congrFun (p6.2.2 6 (by decide)).1 2) (by subst hσ; exact congrFun (p6.2.2 6 (by decide)).1 3) (by subst hσ; exact congrFun (p6.2.2 6 (by decide)).1 4)
  have kp7 : Mm σ 74 M00 := m6 74 (sh_pastM 7 (by decide)) (by subst hσ; exact congrFun (p6.2.2 7 (by decide)).2.1 1) (by subst hσ; exact (p6.2.2 7 (by decide)).2.2.2.1) (by subst hσ; exact (p6.2.2 7 (by decide)).2.2.2.2) (by subst hσ; exact congrFun (p6.2.2 7 (by decide)).1 2) (by subst hσ; exact congrFun (p6.2.2 7 (by decide)).1 3) (by subst hσ; exact congrFun (p6.2.2 7 (by decide)).1 4)
  have kk0 : Mm σ 81 M00 := m6 81 (sh_keptM 0 (by decide)) (by subst hσ; exact congrFun (p7.2.2 0 (by decide)).2.1 1) (by subst hσ; exact (p7.2.2 0 (by decide)).2.2.2.1) (by subst hσ; exact (p7.2.2 0 (by decide)).2.2.2.2) (by subst hσ; exact congrFun (p7.2.2 0 (by decide)).1 2) (by subst hσ; exact congrFun (p7.2.2 0 (by decide)).1 3) (by subst hσ; exact congrFun (p7.2.2 0 (by decide)).1 4)
  have kk1 : Mm σ 86 M00 := m6 86 (sh_keptM 1 (by decide)) (by subst hσ; exact congrFun (p7.2.2 1 (by decide)).2.1 1) (by subst hσ; exact (p7.2.2 1 (by decide)).2.2.2.1) (by subst hσ; exact (p7.2.2 1 (by decide)).2.2.2.2) (by subst hσ; exact congrFun (p7.2.2 1 (by decide)).1 2) (by subst hσ; exact congrFun (p7.2.2 1 (by decide)).1 3) (by subst hσ; exact congrFun (p7.2.2 1 (by decide)).1 4)
  have s37 : Shf σ 37 8 [39, 44, 49, 54, 59, 64, 69, 74] [] := by
    refine ⟨sh_past, by subst hσ; exact congrFun p6.1 1, Nat.zero_le _, rfl, by decide, ?_, ?_, ?_, fun i M h => by simp at h⟩
    · intro x hx
      simp only [List.mem_cons, List.not_mem_nil, or_false] at hx
      rcases hx with rfl | rfl | rfl | rfl | rfl | rfl | rfl | rfl
      · exact ⟨0, by decide, rfl⟩
      · exact ⟨1, by decide, rfl⟩
      · exact ⟨2, by decide, rfl⟩
      · exact ⟨3, by decide, rfl⟩
      · exact ⟨4, by decide, rfl⟩
      · exact ⟨5, by decide, rfl⟩
      · exact ⟨6, by decide, rfl⟩
      · exact ⟨7, by decide, rfl⟩
    · intro i hi
      subst hσ
      match i, hi with
      | 0, _ => rfl
      | 1, _ => rfl
      | 2, _ => rfl
      | 3, _ => rfl
      | 4, _ => rfl
      | 5, _ => rfl
      | 6, _ => rfl
      | 7, _ => rfl
    · intro x hx
      simp only [List.mem_cons, List.not_mem_nil, or_false] at hx
      rcases hx with rfl | rfl | rfl | rfl | rfl | rfl | rfl | rfl
      · exact mx _ kp0
      · exact mx _ kp1
      · exact mx _ kp2
      · exact mx _ kp3
      · exact mx _ kp4
      · exact mx _ kp5
      · exact mx _ kp6
      · exact mx _ kp7
  have s79 : Shf σ 79 2 [81, 86] [] := by
    refine ⟨sh_kept, by subst hσ; exact congrFun p7.1 1, Nat.zero_le _, rfl, by decide, ?_, ?_, ?_, fun i M h => by simp at h⟩
    · intro x hx
      simp only [List.mem_cons, List.not_mem_nil, or_false] at hx
      rcases hx with rfl | rfl
      · exact ⟨0, by decide, rfl⟩
      · exact ⟨1, by decide, rfl⟩
    · intro i hi
      subst hσ
      match i, hi with
      | 0, _ => rfl
      | 1, _ => rfl
    · intro x hx
      simp only [List.mem_cons, List.not_mem_nil, or_false] at hx
      rcases hx with rfl | rfl
      · exact mx _ kk0
      · exact mx _ kk1
  have zl : ∀ j, j < 8 → LrX σ (97 + 5 * j) (lrnB j) := by
    intro j hj
    have hi := sh_lrn j hj
    refine ⟨hi, ⟨[], nz _ _ hi.latest ?_⟩, ⟨[], nz _ _ hi.doing ?_⟩⟩
    · subst hσ
      match j, hj with
      | 0, _ => rfl
      | 1, _ => rfl
      | 2, _ => rfl
      | 3, _ => rfl
      | 4, _ => rfl
      | 5, _ => rfl
      | 6, _ => rfl
      | 7, _ => rfl
    · subst hσ
      match j, hj with
      | 0, _ => rfl
      | 1, _ => rfl
      | 2, _ => rfl
      | 3, _ => rfl
      | 4, _ => rfl
      | 5, _ => rfl
      | 6, _ => rfl
      | 7, _ => rfl
  exact ⟨⟨nz 1 _ sh_text (by subst hσ; rfl), z19, k32, ⟨_, s37⟩, ⟨_, s79⟩, nz 91 _ sh_seen (by subst hσ; rfl), ⟨_, z3⟩, ⟨_, nz 17 _ sh_numbers (by subst hσ; rfl)⟩, ⟨_, nz 93 _ sh_times (by subst hσ; rfl)⟩, ⟨_, nz 95 _ sh_alike (by subst hσ; rfl)⟩, zl, ⟨_, nz 138 _ sh_left (by subst hσ; rfl)⟩, ⟨_, nz 140 _ sh_tried (by subst hσ; rfl)⟩, ⟨_, nz 142 _ sh_best (by subst hσ; rfl)⟩⟩, z3⟩
def wsC (E : f_E) (ad1 ad2 ad3 ad4 ad5 ad6 ad7 ad8 ad9 ad10 ad11 ad12 ad13 ad14 ad15 ad16 ad17 ad18 ad19 bd11 bd12 bd13 bd14 bd15 bd16 bd17 bd18 bd19 cd19 : Nat → Nat) (h0 q3 q11 q12 q13 q14 q15 q16 q17 q18 q19 : Nat) (s5 s6 s7 : f_Mem) : va_W := (h0, .inr (7, [.ref (ad1 0), .ref (ad2 0), .ref q3, .ref (ad4 0), .ref (ad5 0), .ref (ad6 0), .ref (ad7 0), .ref (ad8 0), .ref (ad9 0), .ref (ad10 0), .ref q18, .ref q19])) :: (((((((((((((((((((([] : va_W) ++ (f_wl (k_E E ad1) (S_num 200) k_z)) ++ (f_wl (k_E E ad2) S_lsn k_z)) ++ ((q3, .inr (5, [.ref (ad1 0), .ref (ad2 0), .ref (ad3 0)])) :: ([] ++ f_wl (k_E E ad3) (S_num 5) k_z))) ++ (f_wl (k_E E ad4) S_lsn k_z)) ++ (f_wl (k_E E ad5) S_mem s5)) ++ (f_wl (k_E E ad6) S_shf8 s6)) ++ (f_wl (k_E E ad7) S_shf2 s7)) ++ (f_wl (k_E E ad8) (S_num 8) k_z)) ++ (f_wl (k_E E ad9) (S_num 60) k_z)) ++ (f_wl (k_E E ad10) (S_num 6) k_z)) ++ ((q11, .inr (0, [.ref (ad4 0), .null, .ref (ad11 0), .ref (bd11 0), .int 0, .int 0, .int 0, .int 0, .int 0])) :: (([] ++ f_wl (k_E E ad11) (S_num 6) k_z) ++ f_wl (k_E E bd11) (S_num 6) k_z))) ++ ((q12, .inr (0, [.ref (ad4 0), .ref q11, .ref (ad12 0), .ref (bd12 0), .int 0, .int 0, .int 0, .int 0, .int 0])) :: (([] ++ f_wl (k_E E ad12) (S_num 6) k_z) ++ f_wl (k_E E bd12) (S_num 6) k_z))) ++ ((q13, .inr (0, [.ref (ad4 0), .ref q12, .ref (ad13 0), .ref (bd13 0), .int 0, .int 0, .int 0, .int 0, .int 0])) :: (([] ++ f_wl (k_E E ad13) (S_num 6) k_z) ++ f_wl (k_E E bd13) (S_num 6) k_z))) ++ ((q14, .inr (0, [.ref (ad4 0), .ref q13, .ref (ad14 0), .ref (bd14 0), .int 0, .int 0, .int 0, .int 0, .int 0])) :: (([] ++ f_wl (k_E E ad14) (S_num 6) k_z) ++ f_wl (k_E E bd14) (S_num 6) k_z))) ++ ((q15, .inr (0, [.ref (ad4 0), .ref q14, .ref (ad15 0), .ref (bd15 0), .int 0, .int 0, .int 0, .int 0, .int 0])) :: (([] ++ f_wl (k_E E ad15) (S_num 6) k_z) ++ f_wl (k_E E bd15) (S_num 6) k_z))) ++ ((q16, .inr (0, [.ref (ad4 0), .ref q15, .ref (ad16 0), .ref (bd16 0), .int 0, .int 0, .int 0, .int 0, .int 0])) :: (([] ++ f_wl (k_E E ad16) (S_num 6) k_z) ++ f_wl (k_E E bd16) (S_num 6) k_z))) ++ ((q17, .inr (0, [.ref (ad4 0), .ref q16, .ref (ad17 0), .ref (bd17 0), .int 0, .int 0, .int 0, .int 0, .int 0])) :: (([] ++ f_wl (k_E E ad17) (S_num 6) k_z) ++ f_wl (k_E E bd17) (S_num 6) k_z))) ++ ((q18, .inr (0, [.ref (ad4 0), .ref q17, .ref (ad18 0), .ref (bd18 0), .int 0, .int 0, .int 0, .int 0, .int 0])) :: (([] ++ f_wl (k_E E ad18) (S_num 6) k_z) ++ f_wl (k_E E bd18) (S_num 6) k_z))) ++ ((q19, .inr (4, [.ref (ad4 0), .ref (ad19 0), .ref (bd19 0), .ref (cd19 0), .int 0])) :: ((([] ++ f_wl (k_E E ad19) (S_num 6) k_z) ++ f_wl (k_E E bd19) (S_num 7) k_z) ++ f_wl (k_E E cd19) (S_num 7) k_z)))
def adC (ad1 ad2 ad3 ad4 ad5 ad6 ad7 ad8 ad9 ad10 ad11 ad12 ad13 ad14 ad15 ad16 ad17 ad18 ad19 bd11 bd12 bd13 bd14 bd15 bd16 bd17 bd18 bd19 cd19 : Nat → Nat) (h0 q3 q11 q12 q13 q14 q15 q16 q17 q18 q19 : Nat) : Nat → Nat := A_l [h0, ad1 0, ad1 1, ad2 0, ad2 1, ad2 2, ad2 3, ad2 4, ad2 5, ad2 6, ad2 7, ad2 8, ad2 9, ad2 10, ad2 11, ad2 12, q3, ad3 0, ad3 1, ad4 0, ad4 1, ad4 2, ad4 3, ad4 4, ad4 5, ad4 6, ad4 7, ad4 8, ad4 9, ad4 10, ad4 11, ad4 12, ad5 0, ad5 1, ad5 2, ad5 3, ad5 4, ad6 0, ad6 1, ad6 2, ad6 3, ad6 4, ad6 5, ad6 6, ad6 7, ad6 8, ad6 9, ad6 10, ad6 11, ad6 12, ad6 13, ad6 14, ad6 15, ad6 16, ad6 17, ad6 18, ad6 19, ad6 20, ad6 21, ad6 22, ad6 23, ad6 24, ad6 25, ad6 26, ad6 27, ad6 28, ad6 29, ad6 30, ad6 31, ad6 32, ad6 33, ad6 34, ad6 35, ad6 36, ad6 37, ad6 38, ad6 39, ad6 40, ad6 41, ad7 0, ad7 1, ad7 2, ad7 3, ad7 4, ad7 5, ad7 6, ad7 7, ad7 8, ad7 9, ad7 10, ad7 11, ad8 0, ad8 1, ad9 0, ad9 1, ad10 0, ad10 1, q18, ad18 0, ad18 1, bd18 0, bd18 1, q17, ad17 0, ad17 1, bd17 0, bd17 1, q16, ad16 0, ad16 1, bd16 0, bd16 1, q15, ad15 0, ad15 1, bd15 0, bd15 1, q14, ad14 0, ad14 1, bd14 0, bd14 1, q13, ad13 0, ad13 1, bd13 0, bd13 1, q12, ad12 0, ad12 1, bd12 0, bd12 1, q11, ad11 0, ad11 1, bd11 0, bd11 1, q19, ad19 0, ad19 1, bd19 0, bd19 1, cd19 0, cd19 1]
def sgC (s5 s6 s7 : f_Mem) : f_Mem := M_l [fun _ => 0, fun _ => 0, fun _ => 0, fun _ => 0, fun _ => 0, fun _ => 0, fun _ => 0, fun _ => 0, fun _ => 0, fun _ => 0, fun _ => 0, fun _ => 0, fun _ => 0, fun _ => 0, fun _ => 0, fun _ => 0, fun _ => 0, fun _ => 0, fun _ => 0, fun _ => 0, fun _ => 0, fun _ => 0, fun _ => 0, fun _ => 0, fun _ => 0, fun _ => 0, fun _ => 0, fun _ => 0, fun _ => 0, fun _ => 0, fun _ => 0, fun _ => 0, s5 0, s5 1, s5 2, s5 3, s5 4, s6 0, fun j : Nat => iI (39 + 5 * (j : Int)), s6 2, s6 3, s6 4, s6 5, s6 6, s6 7, s6 8, s6 9, s6 10, s6 11, s6 12, s6 13, s6 14, s6 15, s6 16, s6 17, s6 18, s6 19, s6 20, s6 21, s6 22, s6 23, s6 24, s6 25, s6 26, s6 27, s6 28, s6 29, s6 30, s6 31, s6 32, s6 33, s6 34, s6 35, s6 36, s6 37, s6 38, s6 39, s6 40, s6 41, s7 0, fun j : Nat => iI (81 + 5 * (j : Int)), s7 2, s7 3, s7 4, s7 5, s7 6, s7 7, s7 8, s7 9, s7 10, s7 11, fun _ => 0, fun _ => 0, fun _ => 0, fun _ => 0, fun _ => 0, fun _ => 0, fun _ => 0, fun _ => 0, fun _ => 0, fun _ => 0, fun _ => 0, fun _ => 0, fun _ => 0, fun _ => 0, fun _ => 0, fun _ => 0, fun _ => 0, fun _ => 0, fun _ => 0, fun _ => 0, fun _ => 0, fun _ => 0, fun _ => 0, fun _ => 0, fun _ => 0, fun _ => 0, fun _ => 0, fun _ => 0, fun _ => 0, fun _ => 0, fun _ => 0, fun _ => 0, fun _ => 0, fun _ => 0, fun _ => 0, fun _ => 0, fun _ => 0, fun _ => 0, fun _ => 0, fun _ => 0, fun _ => 0, fun _ => 0, fun _ => 0, fun _ => 0, fun _ => 0, fun _ => 0, fun _ => 0, fun _ => 0, fun _ => 0, fun _ => 0, fun _ => 0, fun _ => 0, fun _ => 0]
def QC (E : f_E) (ad : Nat → Nat) (σ : f_Mem) (ws : va_W) (k : Nat) : Prop := ∃ x, ws[pmC k]? = some (ad k, x) ∧ (∀ H, va_at E.2.1 vwCl (ad k, x) H → va_at E.2.1 vwCl (ad k, f_cell (k_E E ad) sC σ k) H)
theorem k_allL {Q : Nat → Prop} {lo : Nat} : ∀ k, lo ≤ k → k < lo → Q k := fun k h h2 => absurd h (by omega)
theorem k_allm {Q : Nat → Prop} {lo n : Nat} (h : ∀ k, lo ≤ k → k < n → Q k) (h1 : Q n) : ∀ k, lo ≤ k → k < n + 1 → Q k := fun k hl hk => by
  by_cases e : k = n
  · subst e; exact h1
  · exact h k hl (by omega)
theorem W_C0 {E : f_E} {ad1 ad2 ad3 ad4 ad5 ad6 ad7 ad8 ad9 ad10 ad11 ad12 ad13 ad14 ad15 ad16 ad17 ad18 ad19 bd11 bd12 bd13 bd14 bd15 bd16 bd17 bd18 bd19 cd19 : Nat → Nat} {h0 q3 q11 q12 q13 q14 q15 q16 q17 q18 q19 : Nat} {s5 s6 s7 : f_Mem} : ∀ k, 0 ≤ k → k < 20 → QC E (adC ad1 ad2 ad3 ad4 ad5 ad6 ad7 ad8 ad9 ad10 ad11 ad12 ad13 ad14 ad15 ad16 ad17 ad18 ad19 bd11 bd12 bd13 bd14 bd15 bd16 bd17 bd18 bd19 cd19 h0 q3 q11 q12 q13 q14 q15 q16 q17 q18 q19) (sgC s5 s6 s7) (wsC E ad1 ad2 ad3 ad4 ad5 ad6 ad7 ad8 ad9 ad10 ad11 ad12 ad13 ad14 ad15 ad16 ad17 ad18 ad19 bd11 bd12 bd13 bd14 bd15 bd16 bd17 bd18 bd19 cd19 h0 q3 q11 q12 q13 q14 q15 q16 q17 q18 q19 s5 s6 s7) k := by
  refine k_allm ?_ ⟨_, rfl, fun H h => h⟩
  refine k_allm ?_ ⟨_, rfl, fun H h => h⟩
  refine k_allm ?_ ⟨_, rfl, fun H h => h⟩
  refine k_allm ?_ ⟨_, rfl, fun H h => h⟩
  refine k_allm ?_ ⟨_, rfl, fun H h => h⟩
  refine k_allm ?_ ⟨_, rfl, fun H h => h⟩
  refine k_allm ?_ ⟨_, rfl, fun H h => h⟩
  refine k_allm ?_ ⟨_, rfl, fun H h => h⟩
  refine k_allm ?_ ⟨_, rfl, fun H h => h⟩
  refine k_allm ?_ ⟨_, rfl, fun H h => h⟩
  refine k_allm ?_ ⟨_, rfl, fun H h => h⟩
  refine k_allm ?_ ⟨_, rfl, fun H h => h⟩
  refine k_allm ?_ ⟨_, rfl, fun H h => h⟩
  refine k_allm ?_ ⟨_, rfl, fun H h => h⟩
  refine k_allm ?_ ⟨_, rfl, fun H h => h⟩
  refine k_allm ?_ ⟨_, rfl, fun H h => h⟩
  refine k_allm ?_ ⟨_, rfl, fun H h => h⟩
  refine k_allm ?_ ⟨_, rfl, fun H h => h⟩
  refine k_allm ?_ ⟨_, rfl, fun H h => h⟩
  refine k_allm ?_ ⟨_, rfl, fun H h => h⟩
  exact k_allL
theorem W_C1 {E : f_E} {ad1 ad2 ad3 ad4 ad5 ad6 ad7 ad8 ad9 ad10 ad11 ad12 ad13 ad14 ad15 ad16 ad17 ad18 ad19 bd11 bd12 bd13 bd14 bd15 bd16 bd17 bd18 bd19 cd19 : Nat → Nat} {h0 q3 q11 q12 q13 q14 q15 q16 q17 q18 q19 : Nat} {s5 s6 s7 : f_Mem} : ∀ k, 20 ≤ k → k < 37 → QC E (adC ad1 ad2 ad3 ad4 ad5 ad6 ad7 ad8 ad9 ad10 ad11 ad12 ad13 ad14 ad15 ad16 ad17 ad18 ad19 bd11 bd12 bd13 bd14 bd15 bd16 bd17 bd18 bd19 cd19 h0 q3 q11 q12 q13 q14 q15 q16 q17 q18 q19) (sgC s5 s6 s7) (wsC E ad1 ad2 ad3 ad4 ad5 ad6 ad7 ad8 ad9 ad10 ad11 ad12 ad13 ad14 ad15 ad16 ad17 ad18 ad19 bd11 bd12 bd13 bd14 bd15 bd16 bd17 bd18 bd19 cd19 h0 q3 q11 q12 q13 q14 q15 q16 q17 q18 q19 s5 s6 s7) k := by
  refine k_allm ?_ ⟨_, rfl, fun H h => h⟩
  refine k_allm ?_ ⟨_, rfl, fun H h => h⟩
  refine k_allm ?_ ⟨_, rfl, fun H h => h⟩
  refine k_allm ?_ ⟨_, rfl, fun H h => h⟩
  refine k_allm ?_ ⟨_, rfl, fun H h => h⟩
  refine k_allm ?_ ⟨_, rfl, fun H h => h⟩
  refine k_allm ?_ ⟨_, rfl, fun H h => h⟩
  refine k_allm ?_ ⟨_, rfl, fun H h => h⟩
  refine k_allm ?_ ⟨_, rfl, fun H h => h⟩
  refine k_allm ?_ ⟨_, rfl, fun H h => h⟩
  refine k_allm ?_ ⟨_, rfl, fun H h => h⟩
  refine k_allm ?_ ⟨_, rfl, fun H h => h⟩
  refine k_allm ?_ ⟨_, rfl, fun H h => h⟩
  refine k_allm ?_ ⟨_, rfl, fun H h => h⟩
  refine k_allm ?_ ⟨_, rfl, fun H h => h⟩
  refine k_allm ?_ ⟨_, rfl, fun H h => h⟩
  refine k_allm ?_ ⟨_, rfl, fun H h => h⟩
  exact k_allL
theorem W_C2 {E : f_E} {ad1 ad2 ad3 ad4 ad5 ad6 ad7 ad8 ad9 ad10 ad11 ad12 ad13 ad14 ad15 ad16 ad17 ad18 ad19 bd11 bd12 bd13 bd14 bd15 bd16 bd17 bd18 bd19 cd19 : Nat → Nat} {h0 q3 q11 q12 q13 q14 q15 q16 q17 q18 q19 : Nat} {s5 s6 s7 : f_Mem} : ∀ k, 37 ≤ k → k < 58 → QC E (adC ad1 ad2 ad3 ad4 ad5 ad6 ad7 ad8 ad9 ad10 ad11 ad12 ad13 ad14 ad15 ad16 ad17 ad18 ad19 bd11 bd12 bd13 bd14 bd15 bd16 bd17 bd18 bd19 cd19 h0 q3 q11 q12 q13 q14 q15 q16 q17 q18 q19) (sgC s5 s6 s7) (wsC E ad1 ad2 ad3 ad4 ad5 ad6 ad7 ad8 ad9 ad10 ad11 ad12 ad13 ad14 ad15 ad16 ad17 ad18 ad19 bd11 bd12 bd13 bd14 bd15 bd16 bd17 bd18 bd19 cd19 h0 q3 q11 q12 q13 q14 q15 q16 q17 q18 q19 s5 s6 s7) k := by
  refine k_allm ?_ ⟨_, rfl, fun H h => h⟩
  refine k_allm ?_ ⟨_, rfl, fun H h => h⟩
  refine k_allm ?_ ⟨_, rfl, fun H h => h⟩
  refine k_allm ?_ ⟨_, rfl, fun H h => h⟩
  refine k_allm ?_ ⟨_, rfl, fun H h => h⟩
  refine k_allm ?_ ⟨_, rfl, fun H h => h⟩
  refine k_allm ?_ ⟨_, rfl, fun H h => h⟩
  refine k_allm ?_ ⟨_, rfl, fun H h => h⟩
  refine k_allm ?_ ⟨_, rfl, fun H h => h⟩
  refine k_allm ?_ ⟨_, rfl, fun H h => h⟩
  refine k_allm ?_ ⟨_, rfl, fun H h => h⟩
  refine k_allm ?_ ⟨_, rfl, fun H h => h⟩
  refine k_allm ?_ ⟨_, rfl, fun H h => h⟩
  refine k_allm ?_ ⟨_, rfl, fun H h => h⟩
  refine k_allm ?_ ⟨_, rfl, fun H h => h⟩
  refine k_allm ?_ ⟨_, rfl, fun H h => h⟩
  refine k_allm ?_ ⟨_, rfl, fun H h => h⟩
  refine k_allm ?_ ⟨_, rfl, fun H h => h⟩
  refine k_allm ?_ ⟨_, rfl, fun H h => h⟩
  refine k_allm ?_ ⟨_, rfl, fun H h => k_arq h (fun j hj => match j, hj with | 0, _ => rfl | 1, _ => rfl | 2, _ => rfl | 3, _ => rfl | 4, _ => rfl | 5, _ => rfl | 6, _ => rfl | 7, _ => rfl)⟩
  refine k_allm ?_ ⟨_, rfl, fun H h => h⟩
  exact k_allL
theorem W_C3 {E : f_E} {ad1 ad2 ad3 ad4 ad5 ad6 ad7 ad8 ad9 ad10 ad11 ad12 ad13 ad14 ad15 ad16 ad17 ad18 ad19 bd11 bd12 bd13 bd14 bd15 bd16 bd17 bd18 bd19 cd19 : Nat → Nat} {h0 q3 q11 q12 q13 q14 q15 q16 q17 q18 q19 : Nat} {s5 s6 s7 : f_Mem} : ∀ k, 58 ≤ k → k < 79 → QC E (adC ad1 ad2 ad3 ad4 ad5 ad6 ad7 ad8 ad9 ad10 ad11 ad12 ad13 ad14 ad15 ad16 ad17 ad18 ad19 bd11 bd12 bd13 bd14 bd15 bd16 bd17 bd18 bd19 cd19 h0 q3 q11 q12 q13 q14 q15 q16 q17 q18 q19) (sgC s5 s6 s7) (wsC E ad1 ad2 ad3 ad4 ad5 ad6 ad7 ad8 ad9 ad10 ad11 ad12 ad13 ad14 ad15 ad16 ad17 ad18 ad19 bd11 bd12 bd13 bd14 bd15 bd16 bd17 bd18 bd19 cd19 h0 q3 q11 q12 q13 q14 q15 q16 q17 q18 q19 s5 s6 s7) k := by
  refine k_allm ?_ ⟨_, rfl, fun H h => h⟩
  refine k_allm ?_ ⟨_, rfl, fun H h => h⟩
  refine k_allm ?_ ⟨_, rfl, fun H h => h⟩
  refine k_allm ?_ ⟨_, rfl, fun H h => h⟩
  refine k_allm ?_ ⟨_, rfl, fun H h => h⟩
  refine k_allm ?_ ⟨_, rfl, fun H h => h⟩
  refine k_allm ?_ ⟨_, rfl, fun H h => h⟩
  refine k_allm ?_ ⟨_, rfl, fun H h => h⟩
  refine k_allm ?_ ⟨_, rfl, fun H h => h⟩
  refine k_allm ?_ ⟨_, rfl, fun H h => h⟩
  refine k_allm ?_ ⟨_, rfl, fun H h => h⟩
  refine k_allm ?_ ⟨_, rfl, fun H h => h⟩
  refine k_allm ?_ ⟨_, rfl, fun H h => h⟩
  refine k_allm ?_ ⟨_, rfl, fun H h => h⟩
  refine k_allm ?_ ⟨_, rfl, fun H h => h⟩
  refine k_allm ?_ ⟨_, rfl, fun H h => h⟩
  refine k_allm ?_ ⟨_, rfl, fun H h => h⟩
  refine k_allm ?_ ⟨_, rfl, fun H h => h⟩
  refine k_allm ?_ ⟨_, rfl, fun H h => h⟩
  refine k_allm ?_ ⟨_, rfl, fun H h => h⟩
  refine k_allm ?_ ⟨_, rfl, fun H h => h⟩
  exact k_allL
theorem W_C4 {E : f_E} {ad1 ad2 ad3 ad4 ad5 ad6 ad7 ad8 ad9 ad10 ad11 ad12 ad13 ad14 ad15 ad16 ad17 ad18 ad19 bd11 bd12 bd13 bd14 bd15 bd16 bd17 bd18 bd19 cd19 : Nat → Nat} {h0 q3 q11 q12 q13 q14 q15 q16 q17 q18 q19 : Nat} {s5 s6 s7 : f_Mem} : ∀ k, 79 ≤ k → k < 97 → QC E (adC ad1 ad2 ad3 ad4 ad5 ad6 ad7 ad8 ad9 ad10 ad11 ad12 ad13 ad14 ad15 ad16 ad17 ad18 ad19 bd11 bd12 bd13 bd14 bd15 bd16 bd17 bd18 bd19 cd19 h0 q3 q11 q12 q13 q14 q15 q16 q17 q18 q19) (sgC s5 s6 s7) (wsC E ad1 ad2 ad3 ad4 ad5 ad6 ad7 ad8 ad9 ad10 ad11 ad12 ad13 ad14 ad15 ad16 ad17 ad18 ad19 bd11 bd12 bd13 bd14 bd15 bd16 bd17 bd18 bd19 cd19 h0 q3 q11 q12 q13 q14 q15 q16 q17 q18 q19 s5 s6 s7) k := by
  refine k_allm ?_ ⟨_, rfl, fun H h => h⟩
  refine k_allm ?_ ⟨_, rfl, fun H h => h⟩
  refine k_allm ?_ ⟨_, rfl, fun H h => h⟩
  refine k_allm ?_ ⟨_, rfl, fun H h => h⟩
  refine k_allm ?_ ⟨_, rfl, fun H h => h⟩
  refine k_allm ?_ ⟨_, rfl, fun H h => h⟩
  refine k_allm ?_ ⟨_, rfl, fun H h => h⟩
  refine k_allm ?_ ⟨_, rfl, fun H h => h⟩
  refine k_allm ?_ ⟨_, rfl, fun H h => h⟩
  refine k_allm ?_ ⟨_, rfl, fun H h => h⟩
  refine k_allm ?_ ⟨_, rfl, fun H h => h⟩
  refine k_allm ?_ ⟨_, rfl, fun H h => h⟩
  refine k_allm ?_ ⟨_, rfl, fun H h => h⟩
  refine k_allm ?_ ⟨_, rfl, fun H h => h⟩
  refine k_allm ?_ ⟨_, rfl, fun H h => h⟩
  refine k_allm ?_ ⟨_, rfl, fun H h => h⟩
  refine k_allm ?_ ⟨_, rfl, fun H h => k_arq h (fun j hj => match j, hj with | 0, _ => rfl | 1, _ => rfl)⟩
  refine k_allm ?_ ⟨_, rfl, fun H h => h⟩
  exact k_allL
theorem W_C5 {E : f_E} {ad1 ad2 ad3 ad4 ad5 ad6 ad7 ad8 ad9 ad10 ad11 ad12 ad13 ad14 ad15 ad16 ad17 ad18 ad19 bd11 bd12 bd13 bd14 bd15 bd16 bd17 bd18 bd19 cd19 : Nat → Nat} {h0 q3 q11 q12 q13 q14 q15 q16 q17 q18 q19 : Nat} {s5 s6 s7 : f_Mem} : ∀ k, 97 ≤ k → k < 117 → QC E (adC ad1 ad2 ad3 ad4 ad5 ad6 ad7 ad8 ad9 ad10 ad11 ad12 ad13 ad14 ad15 ad16 ad17 ad18 ad19 bd11 bd12 bd13 bd14 bd15 bd16 bd17 bd18 bd19 cd19 h0 q3 q11 q12 q13 q14 q15 q16 q17 q18 q19) (sgC s5 s6 s7) (wsC E ad1 ad2 ad3 ad4 ad5 ad6 ad7 ad8 ad9 ad10 ad11 ad12 ad13 ad14 ad15 ad16 ad17 ad18 ad19 bd11 bd12 bd13 bd14 bd15 bd16 bd17 bd18 bd19 cd19 h0 q3 q11 q12 q13 q14 q15 q16 q17 q18 q19 s5 s6 s7) k := by
  refine k_allm ?_ ⟨_, rfl, fun H h => h⟩
  refine k_allm ?_ ⟨_, rfl, fun H h => h⟩
  refine k_allm ?_ ⟨_, rfl, fun H h => h⟩
  refine k_allm ?_ ⟨_, rfl, fun H h => h⟩
  refine k_allm ?_ ⟨_, rfl, fun H h => h⟩
  refine k_allm ?_ ⟨_, rfl, fun H h => h⟩
  refine k_allm ?_ ⟨_, rfl, fun H h => h⟩
  refine k_allm ?_ ⟨_, rfl, fun H h => h⟩
  refine k_allm ?_ ⟨_, rfl, fun H h => h⟩
  refine k_allm ?_ ⟨_, rfl, fun H h => h⟩
  refine k_allm ?_ ⟨_, rfl, fun H h => h⟩
  refine k_allm ?_ ⟨_, rfl, fun H h => h⟩
  refine k_allm ?_ ⟨_, rfl, fun H h => h⟩
  refine k_allm ?_ ⟨_, rfl, fun H h => h⟩
  refine k_allm ?_ ⟨_, rfl, fun H h => h⟩
  refine k_allm ?_ ⟨_, rfl, fun H h => h⟩
  refine k_allm ?_ ⟨_, rfl, fun H h => h⟩
  refine k_allm ?_ ⟨_, rfl, fun H h => h⟩
  refine k_allm ?_ ⟨_, rfl, fun H h => h⟩
  refine k_allm ?_ ⟨_, rfl, fun H h => h⟩
  exact k_allL
theorem W_C6 {E : f_E} {ad1 ad2 ad3 ad4 ad5 ad6 ad7 ad8 ad9 ad10 ad11 ad12 ad13 ad14 ad15 ad16 ad17 ad18 ad19 bd11 bd12 bd13 bd14 bd15 bd16 bd17 bd18 bd19 cd19 : Nat → Nat} {h0 q3 q11 q12 q13 q14 q15 q16 q17 q18 q19 : Nat} {s5 s6 s7 : f_Mem} : ∀ k, 117 ≤ k → k < 137 → QC E (adC ad1 ad2 ad3 ad4 ad5 ad6 ad7 ad8 ad9 ad10 ad11 ad12 ad13 ad14 ad15 ad16 ad17 ad18 ad19 bd11 bd12 bd13 bd14 bd15 bd16 bd17 bd18 bd19 cd19 h0 q3 q11 q12 q13 q14 q15 q16 q17 q18 q19) (sgC s5 s6 s7) (wsC E ad1 ad2 ad3 ad4 ad5 ad6 ad7 ad8 ad9 ad10 ad11 ad12 ad13 ad14 ad15 ad16 ad17 ad18 ad19 bd11 bd12 bd13 bd14 bd15 bd16 bd17 bd18 bd19 cd19 h0 q3 q11 q12 q13 q14 q15 q16 q17 q18 q19 s5 s6 s7) k := by
  refine k_allm ?_ ⟨_, rfl, fun H h => h⟩
  refine k_allm ?_ ⟨_, rfl, fun H h => h⟩
  refine k_allm ?_ ⟨_, rfl, fun H h => h⟩
  refine k_allm ?_ ⟨_, rfl, fun H h => h⟩
  refine k_allm ?_ ⟨_, rfl, fun H h => h⟩
  refine k_allm ?_ ⟨_, rfl, fun H h => h⟩
  refine k_allm ?_ ⟨_, rfl, fun H h => h⟩
  refine k_allm ?_ ⟨_, rfl, fun H h => h⟩
  refine k_allm ?_ ⟨_, rfl, fun H h => h⟩
  refine k_allm ?_ ⟨_, rfl, fun H h => h⟩
  refine k_allm ?_ ⟨_, rfl, fun H h => h⟩
  refine k_allm ?_ ⟨_, rfl, fun H h => h⟩
  refine k_allm ?_ ⟨_, rfl, fun H h => h⟩
  refine k_allm ?_ ⟨_, rfl, fun H h => h⟩
  refine k_allm ?_ ⟨_, rfl, fun H h => h⟩
  refine k_allm ?_ ⟨_, rfl, fun H h => h⟩
  refine k_allm ?_ ⟨_, rfl, fun H h => h⟩
  refine k_allm ?_ ⟨_, rfl, fun H h => h⟩
  refine k_allm ?_ ⟨_, rfl, fun H h => h⟩
  refine k_allm ?_ ⟨_, rfl, fun H h => h⟩
  exact k_allL
theorem W_C7 {E : f_E} {ad1 ad2 ad3 ad4 ad5 ad6 ad7 ad8 ad9 ad10 ad11 ad12 ad13 ad14 ad15 ad16 ad17 ad18 ad19 bd11 bd12 bd13 bd14 bd15 bd16 bd17 bd18 bd19 cd19 : Nat → Nat} {h0 q3 q11 q12 q13 q14 q15 q16 q17 q18 q19 : Nat} {s5 s6 s7 : f_Mem} : ∀ k, 137 ≤ k → k < 144 → QC E (adC ad1 ad2 ad3 ad4 ad5 ad6 ad7 ad8 ad9 ad10 ad11 ad12 ad13 ad14 ad15 ad16 ad17 ad18 ad19 bd11 bd12 bd13 bd14 bd15 bd16 bd17 bd18 bd19 cd19 h0 q3 q11 q12 q13 q14 q15 q16 q17 q18 q19) (sgC s5 s6 s7) (wsC E ad1 ad2 ad3 ad4 ad5 ad6 ad7 ad8 ad9 ad10 ad11 ad12 ad13 ad14 ad15 ad16 ad17 ad18 ad19 bd11 bd12 bd13 bd14 bd15 bd16 bd17 bd18 bd19 cd19 h0 q3 q11 q12 q13 q14 q15 q16 q17 q18 q19 s5 s6 s7) k := by
  refine k_allm ?_ ⟨_, rfl, fun H h => h⟩
  refine k_allm ?_ ⟨_, rfl, fun H h => h⟩
  refine k_allm ?_ ⟨_, rfl, fun H h => h⟩
  refine k_allm ?_ ⟨_, rfl, fun H h => h⟩
  refine k_allm ?_ ⟨_, rfl, fun H h => h⟩
  refine k_allm ?_ ⟨_, rfl, fun H h => h⟩
  refine k_allm ?_ ⟨_, rfl, fun H h => h⟩
  exact k_allL
theorem W_C {E : f_E} {ad1 ad2 ad3 ad4 ad5 ad6 ad7 ad8 ad9 ad10 ad11 ad12 ad13 ad14 ad15 ad16 ad17 ad18 ad19 bd11 bd12 bd13 bd14 bd15 bd16 bd17 bd18 bd19 cd19 : Nat → Nat} {h0 q3 q11 q12 q13 q14 q15 q16 q17 q18 q19 : Nat} {s5 s6 s7 : f_Mem} : ∀ k, k < 144 → QC E (adC ad1 ad2 ad3 ad4 ad5 ad6 ad7 ad8 ad9 ad10 ad11 ad12 ad13 ad14 ad15 ad16 ad17 ad18 ad19 bd11 bd12 bd13 bd14 bd15 bd16 bd17 bd18 bd19 cd19 h0 q3 q11 q12 q13 q14 q15 q16 q17 q18 q19) (sgC s5 s6 s7) (wsC E ad1 ad2 ad3 ad4 ad5 ad6 ad7 ad8 ad9 ad10 ad11 ad12 ad13 ad14 ad15 ad16 ad17 ad18 ad19 bd11 bd12 bd13 bd14 bd15 bd16 bd17 bd18 bd19 cd19 h0 q3 q11 q12 q13 q14 q15 q16 q17 q18 q19 s5 s6 s7) k := fun k hk => by
  by_cases h0 : k < 20
  · exact W_C0 k (by omega) h0
  by_cases h1 : k < 37
  · exact W_C1 k (by omega) h1
  by_cases h2 : k < 58
  · exact W_C2 k (by omega) h2
  by_cases h3 : k < 79
  · exact W_C3 k (by omega) h3
  by_cases h4 : k < 97
  · exact W_C4 k (by omega) h4
  by_cases h5 : k < 117
  · exact W_C5 k (by omega) h5
  by_cases h6 : k < 137
  · exact W_C6 k (by omega) h6
  by_cases h7 : k < 144
  · exact W_C7 k (by omega) h7
  exact absurd hk (by omega)
theorem K_main {E : f_E} : CMS E mX7_init 12 143 1262 7 [.null, .null, .null, .null, .null, .null, .null, .null, .null, .null, .null, .null] [] (k_Po E sC (fun σ => InvC σ A0)) := by
  refine CMS.intro rfl rfl rfl rfl (fun _ => Nat.le_of_ble_eq_true rfl) (L0 := fun h0 => [some (.ref h0), none, none]) (fun _ => rfl) (fun h0 G hR hT => ?_)
  refine j_aload_n hR _ _ _ _ _ _ dX7_init_0 rfl (j_oinit hR _ _ _ _ _ _ dX7_init_1 oiX7_1 (by decide) (Nat.le_of_ble_eq_true rfl) (j_aload_n hR _ _ _ _ _ _ dX7_init_4 rfl (j_new hR _ _ _ _ _ _ _ _ _ _ _ dX7_init_5 nlX7_7 (by decide) (by decide) (fun q1 => (j_dup hR _ _ _ _ _ dX7_init_8 rfl (j_sipush hR _ _ _ _ _ (iI 200) dX7_init_9 (by decide) (j_init1 hR dX7_init_12 liX7_11 (K_num (E := E) (cap := 200) (by decide)) (by decide) (by decide) (by decide) (Nat.le_of_ble_eq_true rfl) (fun w1 h1 => ?_))))))))
  obtain ⟨ad1, s1, rfl, rfl, rfl⟩ := h1
  refine j_putf hR _ _ _ _ _ _ _ _ _ _ dX7_init_15 ffX7_14 (Or.inr ⟨_, rfl⟩) (Nat.le_of_ble_eq_true rfl) (j_aload_n hR _ _ _ _ _ _ dX7_init_18 rfl (j_new hR _ _ _ _ _ _ _ _ _ _ _ dX7_init_19 nlX7_18 (by decide) (by decide) (fun q2 => (j_dup hR _ _ _ _ _ dX7_init_22 rfl (j_init0 hR dX7_init_23 liX7_20 (K_lsn (E := E)) (by decide) (by decide) (by decide) (Nat.le_of_ble_eq_true rfl) (fun w2 h2 => ?_))))))
  obtain ⟨ad2, s2, rfl, rfl, rfl⟩ := h2
  refine j_putf hR _ _ _ _ _ _ _ _ _ _ dX7_init_26 ffX7_21 (Or.inr ⟨_, rfl⟩) (Nat.le_of_ble_eq_true rfl) (j_aload_n hR _ _ _ _ _ _ dX7_init_29 rfl (j_new hR _ _ _ _ _ _ _ _ _ _ _ dX7_init_30 nlX7_25 (by decide) (by decide) (fun q3 => (j_dup hR _ _ _ _ _ dX7_init_33 rfl (j_aload_n hR _ _ _ _ _ _ dX7_init_34 rfl (j_getf hR _ _ _ _ _ _ _ _ _ _ dX7_init_35 flX7_14 rfl (j_aload_n hR _ _ _ _ _ _ dX7_init_38 rfl (j_getf hR _ _ _ _ _ _ _ _ _ _ dX7_init_39 flX7_21 rfl (j_init2 hR dX7_init_42 liX7_27 (K_rdr (E := E)) (by decide) (by decide) (by decide) (Nat.le_of_ble_eq_true rfl) (fun w3 h3 => ?_))))))))))
  obtain ⟨ad3, rfl⟩ := h3
  refine j_putf hR _ _ _ _ _ _ _ _ _ _ dX7_init_45 ffX7_30 (Or.inr ⟨_, rfl⟩) (Nat.le_of_ble_eq_true rfl) (j_aload_n hR _ _ _ _ _ _ dX7_init_48 rfl (j_new hR _ _ _ _ _ _ _ _ _ _ _ dX7_init_49 nlX7_18 (by decide) (by decide) (fun q4 => (j_dup hR _ _ _ _ _ dX7_init_52 rfl (j_init0 hR dX7_init_53 liX7_20 (K_lsn (E := E)) (by decide) (by decide) (by decide) (Nat.le_of_ble_eq_true rfl) (fun w4 h4 => ?_))))))
  obtain ⟨ad4, s4, rfl, rfl, rfl⟩ := h4
  refine j_putf hR _ _ _ _ _ _ _ _ _ _ dX7_init_56 ffX7_34 (Or.inr ⟨_, rfl⟩) (Nat.le_of_ble_eq_true rfl) (j_aload_n hR _ _ _ _ _ _ dX7_init_59 rfl (j_new hR _ _ _ _ _ _ _ _ _ _ _ dX7_init_60 nlX7_37 (by decide) (by decide) (fun q5 => (j_dup hR _ _ _ _ _ dX7_init_63 rfl (j_init0 hR dX7_init_64 liX7_39 (K_mem (E := E)) (by decide) (by decide) (by decide) (Nat.le_of_ble_eq_true rfl) (fun w5 h5 => ?_))))))
  obtain ⟨ad5, s5, rfl, rfl, p5⟩ := h5
  refine j_putf hR _ _ _ _ _ _ _ _ _ _ dX7_init_67 ffX7_40 (Or.inr ⟨_, rfl⟩) (Nat.le_of_ble_eq_true rfl) (j_aload_n hR _ _ _ _ _ _ dX7_init_70 rfl (j_new hR _ _ _ _ _ _ _ _ _ _ _ dX7_init_71 nlX7_44 (by decide) (by decide) (fun q6 => (j_dup hR _ _ _ _ _ dX7_init_74 rfl (j_bipush hR _ _ _ _ _ (iI 8) dX7_init_75 (by decide) (j_init1 hR dX7_init_77 liX7_46 (K_shf8 (E := E)) (by decide) (by decide) (by decide) (Nat.le_of_ble_eq_true rfl) (fun w6 h6 => ?_)))))))
  obtain ⟨ad6, s6, rfl, rfl, p6⟩ := h6
  refine j_putf hR _ _ _ _ _ _ _ _ _ _ dX7_init_80 ffX7_47 (Or.inr ⟨_, rfl⟩) (Nat.le_of_ble_eq_true rfl) (j_aload_n hR _ _ _ _ _ _ dX7_init_83 rfl (j_new hR _ _ _ _ _ _ _ _ _ _ _ dX7_init_84 nlX7_44 (by decide) (by decide) (fun q7 => (j_dup hR _ _ _ _ _ dX7_init_87 rfl (j_iconst hR _ _ _ _ _ (iI 2) dX7_init_88 rfl (j_init1 hR dX7_init_89 liX7_46 (K_shf2 (E := E)) (by decide) (by decide) (by decide) (Nat.le_of_ble_eq_true rfl) (fun w7 h7 => ?_)))))))
  obtain ⟨ad7, s7, rfl, rfl, p7⟩ := h7
  refine j_putf hR _ _ _ _ _ _ _ _ _ _ dX7_init_92 ffX7_51 (Or.inr ⟨_, rfl⟩) (Nat.le_of_ble_eq_true rfl) (j_aload_n hR _ _ _ _ _ _ dX7_init_95 rfl (j_new hR _ _ _ _ _ _ _ _ _ _ _ dX7_init_96 nlX7_7 (by decide) (by decide) (fun q8 => (j_dup hR _ _ _ _ _ dX7_init_99 rfl (j_bipush hR _ _ _ _ _ (iI 8) dX7_init_100 (by decide) (j_init1 hR dX7_init_102 liX7_11 (K_num (E := E) (cap := 8) (by decide)) (by decide) (by decide) (by decide) (Nat.le_of_ble_eq_true rfl) (fun w8 h8 => ?_)))))))
  obtain ⟨ad8, s8, rfl, rfl, rfl⟩ := h8
  refine j_putf hR _ _ _ _ _ _ _ _ _ _ dX7_init_105 ffX7_54 (Or.inr ⟨_, rfl⟩) (Nat.le_of_ble_eq_true rfl) (j_aload_n hR _ _ _ _ _ _ dX7_init_108 rfl (j_new hR _ _ _ _ _ _ _ _ _ _ _ dX7_init_109 nlX7_7 (by decide) (by decide) (fun q9 => (j_dup hR _ _ _ _ _ dX7_init_112 rfl (j_bipush hR _ _ _ _ _ (iI 60) dX7_init_113 (by decide) (j_init1 hR dX7_init_115 liX7_11 (K_num (E := E) (cap := 60) (by decide)) (by decide) (by decide) (by decide) (Nat.le_of_ble_eq_true rfl) (fun w9 h9 => ?_)))))))
  obtain ⟨ad9, s9, rfl, rfl, rfl⟩ := h9
  refine j_putf hR _ _ _ _ _ _ _ _ _ _ dX7_init_118 ffX7_57 (Or.inr ⟨_, rfl⟩) (Nat.le_of_ble_eq_true rfl) (j_aload_n hR _ _ _ _ _ _ dX7_init_121 rfl (j_new hR _ _ _ _ _ _ _ _ _ _ _ dX7_init_122 nlX7_7 (by decide) (by decide) (fun q10 => (j_dup hR _ _ _ _ _ dX7_init_125 rfl (j_bipush hR _ _ _ _ _ (iI 6) dX7_init_126 (by decide) (j_init1 hR dX7_init_128 liX7_11 (K_num (E := E) (cap := 6) (by decide)) (by decide) (by decide) (by decide) (Nat.le_of_ble_eq_true rfl) (fun w10 h10 => ?_)))))))
  obtain ⟨ad10, s10, rfl, rfl, rfl⟩ := h10
  refine j_putf hR _ _ _ _ _ _ _ _ _ _ dX7_init_131 ffX7_60 (Or.inr ⟨_, rfl⟩) (Nat.le_of_ble_eq_true rfl) (j_null hR _ _ _ _ dX7_init_134  (j_astoreN_n hR _ _ _ _ _ dX7_init_135 (Nat.le_of_ble_eq_true rfl) rfl (j_iconst hR _ _ _ _ _ (iI 0) dX7_init_136 rfl (j_istore_n hR _ _ _ _ _ _ dX7_init_137 (Nat.le_of_ble_eq_true rfl) rfl ?_))))
  refine j_iload_n hR _ _ _ _ _ _ dX7_init_138 rfl (j_bipush hR _ _ _ _ _ (iI 7) dX7_init_139 (by decide) (j_icmp_gt hR _ _ _ _ _ 163 _ _ dX7_init_141 (by decide) (fun z => absurd z (by decide)) (fun z => (j_new hR _ _ _ _ _ _ _ _ _ _ _ dX7_init_144 nlX7_63 (by decide) (by decide) (fun q11 => (j_dup hR _ _ _ _ _ dX7_init_147 rfl (j_aload_n hR _ _ _ _ _ _ dX7_init_148 rfl (j_getf hR _ _ _ _ _ _ _ _ _ _ dX7_init_149 flX7_34 rfl (j_aloadN_n hR _ _ _ _ _ dX7_init_152 rfl (j_init2 hR dX7_init_153 liX7_65 (K_lrnN (E := E)) (by decide) (by decide) (by decide) (Nat.le_of_ble_eq_true rfl) (fun w11 h11 => ?_)))))))))))
  obtain ⟨ad11, bd11, rfl⟩ := h11
  refine j_astore_n hR _ _ _ _ _ _ dX7_init_156 (Nat.le_of_ble_eq_true rfl) rfl (j_iinc hR _ _ _ _ _ _ _ (iI 1) dX7_init_157 rfl (by decide) rfl (j_goto hR _ _ _ _ _ 138 dX7_init_160 (by decide) ?_))
  refine j_iload_n hR _ _ _ _ _ _ dX7_init_138 rfl (j_bipush hR _ _ _ _ _ (iI 7) dX7_init_139 (by decide) (j_icmp_gt hR _ _ _ _ _ 163 _ _ dX7_init_141 (by decide) (fun z => absurd z (by decide)) (fun z => (j_new hR _ _ _ _ _ _ _ _ _ _ _ dX7_init_144 nlX7_63 (by decide) (by decide) (fun q12 => (j_dup hR _ _ _ _ _ dX7_init_147 rfl (j_aload_n hR _ _ _ _ _ _ dX7_init_148 rfl (j_getf hR _ _ _ _ _ _ _ _ _ _ dX7_init_149 flX7_34 rfl (j_aload_n hR _ _ _ _ _ _ dX7_init_152 rfl (j_init2 hR dX7_init_153 liX7_65 (K_lrn (E := E)) (by decide) (by decide) (by decide) (Nat.le_of_ble_eq_true rfl) (fun w12 h12 => ?_)))))))))))
  obtain ⟨ad12, bd12, rfl⟩ := h12
  refine j_astore_n hR _ _ _ _ _ _ dX7_init_156 (Nat.le_of_ble_eq_true rfl) rfl (j_iinc hR _ _ _ _ _ _ _ (iI 2) dX7_init_157 rfl (by decide) rfl (j_goto hR _ _ _ _ _ 138 dX7_init_160 (by decide) ?_))
  refine j_iload_n hR _ _ _ _ _ _ dX7_init_138 rfl (j_bipush hR _ _ _ _ _ (iI 7) dX7_init_139 (by decide) (j_icmp_gt hR _ _ _ _ _ 163 _ _ dX7_init_141 (by decide) (fun z => absurd z (by decide)) (fun z => (j_new hR _ _ _ _ _ _ _ _ _ _ _ dX7_init_144 nlX7_63 (by decide) (by decide) (fun q13 => (j_dup hR _ _ _ _ _ dX7_init_147 rfl (j_aload_n hR _ _ _ _ _ _ dX7_init_148 rfl (j_getf hR _ _ _ _ _ _ _ _ _ _ dX7_init_149 flX7_34 rfl (j_aload_n hR _ _ _ _ _ _ dX7_init_152 rfl (j_init2 hR dX7_init_153 liX7_65 (K_lrn (E := E)) (by decide) (by decide) (by decide) (Nat.le_of_ble_eq_true rfl) (fun w13 h13 => ?_)))))))))))
  obtain ⟨ad13, bd13, rfl⟩ := h13
  refine j_astore_n hR _ _ _ _ _ _ dX7_init_156 (Nat.le_of_ble_eq_true rfl) rfl (j_iinc hR _ _ _ _ _ _ _ (iI 3) dX7_init_157 rfl (by decide) rfl (j_goto hR _ _ _ _ _ 138 dX7_init_160 (by decide) ?_))
  refine j_iload_n hR _ _ _ _ _ _ dX7_init_138 rfl (j_bipush hR _ _ _ _ _ (iI 7) dX7_init_139 (by decide) (j_icmp_gt hR _ _ _ _ _ 163 _ _ dX7_init_141 (by decide) (fun z => absurd z (by decide)) (fun z => (j_new hR _ _ _ _ _ _ _ _ _ _ _ dX7_init_144 nlX7_63 (by decide) (by decide) (fun q14 => (j_dup hR _ _ _ _ _ dX7_init_147 rfl (j_aload_n hR _ _ _ _ _ _ dX7_init_148 rfl (j_getf hR _ _ _ _ _ _ _ _ _ _ dX7_init_149 flX7_34 rfl (j_aload_n hR _ _ _ _ _ _ dX7_init_152 rfl (j_init2 hR dX7_init_153 liX7_65 (K_lrn (E := E)) (by decide) (by decide) (by decide) (Nat.le_of_ble_eq_true rfl) (fun w14 h14 => ?_)))))))))))
  obtain ⟨ad14, bd14, rfl⟩ := h14
  refine j_astore_n hR _ _ _ _ _ _ dX7_init_156 (Nat.le_of_ble_eq_true rfl) rfl (j_iinc hR _ _ _ _ _ _ _ (iI 4) dX7_init_157 rfl (by decide) rfl (j_goto hR _ _ _ _ _ 138 dX7_init_160 (by decide) ?_))
  refine j_iload_n hR _ _ _ _ _ _ dX7_init_138 rfl (j_bipush hR _ _ _ _ _ (iI 7) dX7_init_139 (by decide) (j_icmp_gt hR _ _ _ _ _ 163 _ _ dX7_init_141 (by decide) (fun z => absurd z (by decide)) (fun z => (j_new hR _ _ _ _ _ _ _ _ _ _ _ dX7_init_144 nlX7_63 (by decide) (by decide) (fun q15 => (j_dup hR _ _ _ _ _ dX7_init_147 rfl (j_aload_n hR _ _ _ _ _ _ dX7_init_148 rfl (j_getf hR _ _ _ _ _ _ _ _ _ _ dX7_init_149 flX7_34 rfl (j_aload_n hR _ _ _ _ _ _ dX7_init_152 rfl (j_init2 hR dX7_init_153 liX7_65 (K_lrn (E := E)) (by decide) (by decide) (by decide) (Nat.le_of_ble_eq_true rfl) (fun w15 h15 => ?_)))))))))))
  obtain ⟨ad15, bd15, rfl⟩ := h15
  refine j_astore_n hR _ _ _ _ _ _ dX7_init_156 (Nat.le_of_ble_eq_true rfl) rfl (j_iinc hR _ _ _ _ _ _ _ (iI 5) dX7_init_157 rfl (by decide) rfl (j_goto hR _ _ _ _ _ 138 dX7_init_160 (by decide) ?_))
  refine j_iload_n hR _ _ _ _ _ _ dX7_init_138 rfl (j_bipush hR _ _ _ _ _ (iI 7) dX7_init_139 (by decide) (j_icmp_gt hR _ _ _ _ _ 163 _ _ dX7_init_141 (by decide) (fun z => absurd z (by decide)) (fun z => (j_new hR _ _ _ _ _ _ _ _ _ _ _ dX7_init_144 nlX7_63 (by decide) (by decide) (fun q16 => (j_dup hR _ _ _ _ _ dX7_init_147 rfl (j_aload_n hR _ _ _ _ _ _ dX7_init_148 rfl (j_getf hR _ _ _ _ _ _ _ _ _ _ dX7_init_149 flX7_34 rfl (j_aload_n hR _ _ _ _ _ _ dX7_init_152 rfl (j_init2 hR dX7_init_153 liX7_65 (K_lrn (E := E)) (by decide) (by decide) (by decide) (Nat.le_of_ble_eq_true rfl) (fun w16 h16 => ?_)))))))))))
  obtain ⟨ad16, bd16, rfl⟩ := h16
  refine j_astore_n hR _ _ _ _ _ _ dX7_init_156 (Nat.le_of_ble_eq_true rfl) rfl (j_iinc hR _ _ _ _ _ _ _ (iI 6) dX7_init_157 rfl (by decide) rfl (j_goto hR _ _ _ _ _ 138 dX7_init_160 (by decide) ?_))
  refine j_iload_n hR _ _ _ _ _ _ dX7_init_138 rfl (j_bipush hR _ _ _ _ _ (iI 7) dX7_init_139 (by decide) (j_icmp_gt hR _ _ _ _ _ 163 _ _ dX7_init_141 (by decide) (fun z => absurd z (by decide)) (fun z => (j_new hR _ _ _ _ _ _ _ _ _ _ _ dX7_init_144 nlX7_63 (by decide) (by decide) (fun q17 => (j_dup hR _ _ _ _ _ dX7_init_147 rfl (j_aload_n hR _ _ _ _ _ _ dX7_init_148 rfl (j_getf hR _ _ _ _ _ _ _ _ _ _ dX7_init_149 flX7_34 rfl (j_aload_n hR _ _ _ _ _ _ dX7_init_152 rfl (j_init2 hR dX7_init_153 liX7_65 (K_lrn (E := E)) (by decide) (by decide) (by decide) (Nat.le_of_ble_eq_true rfl) (fun w17 h17 => ?_)))))))))))
  obtain ⟨ad17, bd17, rfl⟩ := h17
  refine j_astore_n hR _ _ _ _ _ _ dX7_init_156 (Nat.le_of_ble_eq_true rfl) rfl (j_iinc hR _ _ _ _ _ _ _ (iI 7) dX7_init_157 rfl (by decide) rfl (j_goto hR _ _ _ _ _ 138 dX7_init_160 (by decide) ?_))
  refine j_iload_n hR _ _ _ _ _ _ dX7_init_138 rfl (j_bipush hR _ _ _ _ _ (iI 7) dX7_init_139 (by decide) (j_icmp_gt hR _ _ _ _ _ 163 _ _ dX7_init_141 (by decide) (fun z => absurd z (by decide)) (fun z => (j_new hR _ _ _ _ _ _ _ _ _ _ _ dX7_init_144 nlX7_63 (by decide) (by decide) (fun q18 => (j_dup hR _ _ _ _ _ dX7_init_147 rfl (j_aload_n hR _ _ _ _ _ _ dX7_init_148 rfl (j_getf hR _ _ _ _ _ _ _ _ _ _ dX7_init_149 flX7_34 rfl (j_aload_n hR _ _ _ _ _ _ dX7_init_152 rfl (j_init2 hR dX7_init_153 liX7_65 (K_lrn (E := E)) (by decide) (by decide) (by decide) (Nat.le_of_ble_eq_true rfl) (fun w18 h18 => ?_)))))))))))
  obtain ⟨ad18, bd18, rfl⟩ := h18
  refine j_astore_n hR _ _ _ _ _ _ dX7_init_156 (Nat.le_of_ble_eq_true rfl) rfl (j_iinc hR _ _ _ _ _ _ _ (iI 8) dX7_init_157 rfl (by decide) rfl (j_goto hR _ _ _ _ _ 138 dX7_init_160 (by decide) ?_))
  refine j_iload_n hR _ _ _ _ _ _ dX7_init_138 rfl (j_bipush hR _ _ _ _ _ (iI 7) dX7_init_139 (by decide) (j_icmp_gt hR _ _ _ _ _ 163 _ _ dX7_init_141 (by decide) (fun z => (j_aload_n hR _ _ _ _ _ _ dX7_init_163 rfl (j_aload_n hR _ _ _ _ _ _ dX7_init_164 rfl (j_putf hR _ _ _ _ _ _ _ _ _ _ dX7_init_165 ffX7_68 (Or.inr ⟨_, rfl⟩) (Nat.le_of_ble_eq_true rfl) (j_aload_n hR _ _ _ _ _ _ dX7_init_168 rfl (j_new hR _ _ _ _ _ _ _ _ _ _ _ dX7_init_169 nlX7_72 (by decide) (by decide) (fun q19 => (j_dup hR _ _ _ _ _ dX7_init_172 rfl (j_aload_n hR _ _ _ _ _ _ dX7_init_173 rfl (j_getf hR _ _ _ _ _ _ _ _ _ _ dX7_init_174 flX7_34 rfl (j_init1 hR dX7_init_177 liX7_74 (K_ord (E := E)) (by decide) (by decide) (by decide) (Nat.le_of_ble_eq_true rfl) (fun w19 h19 => ?_)))))))))))) (fun z => absurd (by decide) z)))
  obtain ⟨ad19, bd19, cd19, rfl⟩ := h19
  refine j_putf hR _ _ _ _ _ _ _ _ _ _ dX7_init_180 ffX7_77 (Or.inr ⟨_, rfl⟩) (Nat.le_of_ble_eq_true rfl) (j_iconst hR _ _ _ _ _ (iI 0) dX7_init_183 rfl (j_istore_n hR _ _ _ _ _ _ dX7_init_184 (Nat.le_of_ble_eq_true rfl) rfl ?_))
  refine hT 185 _ _ _ _ _ (adC ad1 ad2 ad3 ad4 ad5 ad6 ad7 ad8 ad9 ad10 ad11 ad12 ad13 ad14 ad15 ad16 ad17 ad18 ad19 bd11 bd12 bd13 bd14 bd15 bd16 bd17 bd18 bd19 cd19 h0 q3 q11 q12 q13 q14 q15 q16 q17 q18 q19) sC (sgC s5 s6 s7) (fun u => InvC u A0) (by omega) (by omega) (fun H A2 hP hD => k_fin (ws := wsC E ad1 ad2 ad3 ad4 ad5 ad6 ad7 ad8 ad9 ad10 ad11 ad12 ad13 ad14 ad15 ad16 ad17 ad18 ad19 bd11 bd12 bd13 bd14 bd15 bd16 bd17 bd18 bd19 cd19 h0 q3 q11 q12 q13 q14 q15 q16 q17 q18 q19 s5 s6 s7) (E := k_E E (adC ad1 ad2 ad3 ad4 ad5 ad6 ad7 ad8 ad9 ad10 ad11 ad12 ad13 ad14 ad15 ad16 ad17 ad18 ad19 bd11 bd12 bd13 bd14 bd15 bd16 bd17 bd18 bd19 cd19 h0 q3 q11 q12 q13 q14 q15 q16 q17 q18 q19)) pmC pmC_in (fun k hk => W_C k hk) hP hD) (fun G2 hR2 hS2 => T_main hR2 hS2 (InvC_0 p5 p6 p7).1 (InvC_0 p5 p6 p7).2) (fun u hu => ⟨_, u, rfl, rfl, hu⟩)
