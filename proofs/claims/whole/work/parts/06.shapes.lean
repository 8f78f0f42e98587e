def shC : List f_Shp := [.inl (7, [some (some 1), some (some 3), some (some 16), some (some 19), some (some 32), some (some 37), some (some 79), some (some 91), some (some 93), some (some 95), some (some 97), some (some 137)]),
  .inl (3, [some (some 2), none]),
  .inr (.inl 200),
  .inl (1, [some (some 4), some (some 6), some (some 8), some (some 10), some (some 12), some (some 14), none, none]),
  .inl (3, [some (some 5), none]),
  .inr (.inl 6),
  .inl (3, [some (some 7), none]),
  .inr (.inl 6),
  .inl (3, [some (some 9), none]),
  .inr (.inl 6),
  .inl (3, [some (some 11), none]),
  .inr (.inl 6),
  .inl (3, [some (some 13), none]),
  .inr (.inl 6),
  .inl (3, [some (some 15), none]),
  .inr (.inl 10),
  .inl (5, [some (some 1), some (some 3), some (some 17)]),
  .inl (3, [some (some 18), none]),
  .inr (.inl 5),
  .inl (1, [some (some 20), some (some 22), some (some 24), some (some 26), some (some 28), some (some 30), none, none]),
  .inl (3, [some (some 21), none]),
  .inr (.inl 6),
  .inl (3, [some (some 23), none]),
  .inr (.inl 6),
  .inl (3, [some (some 25), none]),
  .inr (.inl 6),
  .inl (3, [some (some 27), none]),
  .inr (.inl 6),
  .inl (3, [some (some 29), none]),
  .inr (.inl 6),
  .inl (3, [some (some 31), none]),
  .inr (.inl 10),
  .inl (2, [some (some 33), some (some 35), none, none, none]),
  .inl (3, [some (some 34), none]),
  .inr (.inl 40),
  .inl (3, [some (some 36), none]),
  .inr (.inl 6),
  .inl (6, [some (some 38), none]),
  .inr (.inr 8),
  .inl (2, [some (some 40), some (some 42), none, none, none]),
  .inl (3, [some (some 41), none]),
  .inr (.inl 40),
  .inl (3, [some (some 43), none]),
  .inr (.inl 6),
  .inl (2, [some (some 45), some (some 47), none, none, none]),
  .inl (3, [some (some 46), none]),
  .inr (.inl 40),
  .inl (3, [some (some 48), none]),
  .inr (.inl 6),
  .inl (2, [some (some 50), some (some 52), none, none, none]),
  .inl (3, [some (some 51), none]),
  .inr (.inl 40),
  .inl (3, [some (some 53), none]),
  .inr (.inl 6),
  .inl (2, [some (some 55), some (some 57), none, none, none]),
  .inl (3, [some (some 56), none]),
  .inr (.inl 40),
  .inl (3, [some (some 58), none]),
  .inr (.inl 6),
  .inl (2, [some (some 60), some (some 62), none, none, none]),
  .inl (3, [some (some 61), none]),
  .inr (.inl 40),
  .inl (3, [some (some 63), none]),
  .inr (.inl 6),
  .inl (2, [some (some 65), some (some 67), none, none, none]),
  .inl (3, [some (some 66), none]),
  .inr (.inl 40),
  .inl (3, [some (some 68), none]),
  .inr (.inl 6),
  .inl (2, [some (some 70), some (some 72), none, none, none]),
  .inl (3, [some (some 71), none]),
  .inr (.inl 40),
  .inl (3, [some (some 73), none]),
  .inr (.inl 6),
  .inl (2, [some (some 75), some (some 77), none, none, none]),
  .inl (3, [some (some 76), none]),
  .inr (.inl 40),
  .inl (3, [some (some 78), none]),
  .inr (.inl 6),
  .inl (6, [some (some 80), none]),
  .inr (.inr 2),
  .inl (2, [some (some 82), some (some 84), none, none, none]),
  .inl (3, [some (some 83), none]),
  .inr (.inl 40),
  .inl (3, [some (some 85), none]),
  .inr (.inl 6),
  .inl (2, [some (some 87), some (some 89), none, none, none]),
  .inl (3, [some (some 88), none]),
  .inr (.inl 40),
  .inl (3, [some (some 90), none]),
  .inr (.inl 6),
  .inl (3, [some (some 92), none]),
  .inr (.inl 8),
  .inl (3, [some (some 94), none]),
  .inr (.inl 60),
  .inl (3, [some (some 96), none]),
  .inr (.inl 6),
  .inl (0, [some (some 19), some (some 102), some (some 98), some (some 100), none, none, none, none, none]),
  .inl (3, [some (some 99), none]),
  .inr (.inl 6),
  .inl (3, [some (some 101), none]),
  .inr (.inl 6),
  .inl (0, [some (some 19), some (some 107), some (some 103), some (some 105), none, none, none, none, none]),
  .inl (3, [some (some 104), none]),
  .inr (.inl 6),
  .inl (3, [some (some 106), none]),
  .inr (.inl 6),
  .inl (0, [some (some 19), some (some 112), some (some 108), some (some 110), none, none, none, none, none]),
  .inl (3, [some (some 109), none]),
  .inr (.inl 6),
  .inl (3, [some (some 111), none]),
  .inr (.inl 6),
  .inl (0, [some (some 19), some (some 117), some (some 113), some (some 115), none, none, none, none, none]),
  .inl (3, [some (some 114), none]),
  .inr (.inl 6),
  .inl (3, [some (some 116), none]),
  .inr (.inl 6),
  .inl (0, [some (some 19), some (some 122), some (some 118), some (some 120), none, none, none, none, none]),
  .inl (3, [some (some 119), none]),
  .inr (.inl 6),
  .inl (3, [some (some 121), none]),
  .inr (.inl 6),
  .inl (0, [some (some 19), some (some 127), some (some 123), some (some 125), none, none, none, none, none]),
  .inl (3, [some (some 124), none]),
  .inr (.inl 6),
  .inl (3, [some (some 126), none]),
  .inr (.inl 6),
  .inl (0, [some (some 19), some (some 132), some (some 128), some (some 130), none, none, none, none, none]),
  .inl (3, [some (some 129), none]),
  .inr (.inl 6),
  .inl (3, [some (some 131), none]),
  .inr (.inl 6),
  .inl (0, [some (some 19), some (none), some (some 133), some (some 135), none, none, none, none, none]),
  .inl (3, [some (some 134), none]),
  .inr (.inl 6),
  .inl (3, [some (some 136), none]),
  .inr (.inl 6),
  .inl (4, [some (some 19), some (some 138), some (some 140), some (some 142), none]),
  .inl (3, [some (some 139), none]),
  .inr (.inl 6),
  .inl (3, [some (some 141), none]),
  .inr (.inl 7),
  .inl (3, [some (some 143), none]),
  .inr (.inl 7)]
def sC : f_S := (144, fun k => shC.getD k (.inr (.inl 0)))
def shM : List f_Shp := [.inl (8, [some (some 1), none, none, none, some (some 2), none, some (some 3), some (some 4), none, none, some (some 5), some (some 6), none, none, none, some (some 7), none, none, some (some 8), none, some (some 9), some (some 10), some (some 11), some (some 12), some (some 13), some (some 14), some (some 15), some (some 16), none, some (some 17), some (some 18), some (some 19), none]),
  .inr (.inl 30),
  .inr (.inl 10),
  .inr (.inl 50),
  .inr (.inl 200),
  .inr (.inl 5),
  .inr (.inl 30),
  .inr (.inl 10),
  .inr (.inl 400),
  .inr (.inl 50),
  .inr (.inl 10),
  .inr (.inl 10),
  .inr (.inl 800),
  .inr (.inl 10),
  .inr (.inl 10),
  .inr (.inl 8),
  .inr (.inl 8),
  .inr (.inl 50),
  .inr (.inl 50),
  .inr (.inl 100)]
def sM : f_S := (20, fun k => shM.getD k (.inr (.inl 0)))

def isNum (n cap : Nat) : Prop := n + 1 < 144 ∧ sC.2 n = .inl (3, [some (some (n + 1)), none]) ∧ sC.2 (n + 1) = .inr (.inl cap) ∧ cap < 2147483648
theorem isNum.lt {n cap : Nat} (h : isNum n cap) : n < sC.1 := Nat.lt_of_succ_lt h.1
theorem isNum.lt1 {n cap : Nat} (h : isNum n cap) : n + 1 < sC.1 := h.1
theorem isNum.obj {n cap : Nat} (h : isNum n cap) : sC.2 n = .inl (3, [some (some (n + 1)), none]) := h.2.1
theorem isNum.arr {n cap : Nat} (h : isNum n cap) : sC.2 (n + 1) = .inr (.inl cap) := h.2.2.1
theorem isNum.cap {n cap : Nat} (h : isNum n cap) : cap < 2147483648 := h.2.2.2
def isLsn (n : Nat) : Prop := n + 12 < 144 ∧ sC.2 n = .inl (1, [some (some (n + 1)), some (some (n + 3)), some (some (n + 5)), some (some (n + 7)), some (some (n + 9)), some (some (n + 11)), none, none]) ∧ isNum (n + 1) 6 ∧ isNum (n + 3) 6 ∧ isNum (n + 5) 6 ∧ isNum (n + 7) 6 ∧ isNum (n + 9) 6 ∧ isNum (n + 11) 10
theorem isLsn.lt {n : Nat} (h : isLsn n) : n < sC.1 := Nat.lt_of_le_of_lt (Nat.le_add_right n 12) h.1
theorem isLsn.obj {n : Nat} (h : isLsn n) : sC.2 n = .inl (1, [some (some (n + 1)), some (some (n + 3)), some (some (n + 5)), some (some (n + 7)), some (some (n + 9)), some (some (n + 11)), none, none]) := h.2.1
theorem isLsn.marks {n : Nat} (h : isLsn n) : isNum (n + 1) 6 := h.2.2.1
theorem isLsn.right {n : Nat} (h : isLsn n) : isNum (n + 3) 6 := h.2.2.2.1
theorem isLsn.spoil {n : Nat} (h : isLsn n) : isNum (n + 5) 6 := h.2.2.2.2.1
theorem isLsn.worth {n : Nat} (h : isLsn n) : isNum (n + 7) 6 := h.2.2.2.2.2.1
theorem isLsn.chance {n : Nat} (h : isLsn n) : isNum (n + 9) 6 := h.2.2.2.2.2.2.1
theorem isLsn.row {n : Nat} (h : isLsn n) : isNum (n + 11) 10 := h.2.2.2.2.2.2.2
def isMem (n : Nat) : Prop := n + 4 < 144 ∧ sC.2 n = .inl (2, [some (some (n + 1)), some (some (n + 3)), none, none, none]) ∧ isNum (n + 1) 40 ∧ isNum (n + 3) 6
theorem isMem.lt {n : Nat} (h : isMem n) : n < sC.1 := Nat.lt_of_le_of_lt (Nat.le_add_right n 4) h.1
theorem isMem.obj {n : Nat} (h : isMem n) : sC.2 n = .inl (2, [some (some (n + 1)), some (some (n + 3)), none, none, none]) := h.2.1
theorem isMem.words {n : Nat} (h : isMem n) : isNum (n + 1) 40 := h.2.2.1
theorem isMem.handed {n : Nat} (h : isMem n) : isNum (n + 3) 6 := h.2.2.2
def isLrn (n : Nat) (b : Option Nat) : Prop := n + 4 < 144 ∧ sC.2 n = .inl (0, [some (some 19), some b, some (some (n + 1)), some (some (n + 3)), none, none, none, none, none]) ∧ isNum (n + 1) 6 ∧ isNum (n + 3) 6
theorem isLrn.lt {n : Nat} {b : Option Nat} (h : isLrn n b) : n < sC.1 := Nat.lt_of_le_of_lt (Nat.le_add_right n 4) h.1
theorem isLrn.obj {n : Nat} {b : Option Nat} (h : isLrn n b) : sC.2 n = .inl (0, [some (some 19), some b, some (some (n + 1)), some (some (n + 3)), none, none, none, none, none]) := h.2.1
theorem isLrn.latest {n : Nat} {b : Option Nat} (h : isLrn n b) : isNum (n + 1) 6 := h.2.2.1
theorem isLrn.doing {n : Nat} {b : Option Nat} (h : isLrn n b) : isNum (n + 3) 6 := h.2.2.2
def isShf (n k : Nat) : Prop := n + 1 < 144 ∧ sC.2 n = .inl (6, [some (some (n + 1)), none]) ∧ sC.2 (n + 1) = .inr (.inr k) ∧ k < 2147483648
theorem isShf.lt {n cap : Nat} (h : isShf n cap) : n < sC.1 := Nat.lt_of_succ_lt h.1
theorem isShf.lt1 {n cap : Nat} (h : isShf n cap) : n + 1 < sC.1 := h.1
theorem isShf.obj {n cap : Nat} (h : isShf n cap) : sC.2 n = .inl (6, [some (some (n + 1)), none]) := h.2.1
theorem isShf.arr {n cap : Nat} (h : isShf n cap) : sC.2 (n + 1) = .inr (.inr cap) := h.2.2.1
theorem isShf.cap {n cap : Nat} (h : isShf n cap) : cap < 2147483648 := h.2.2.2
theorem sh_text : isNum 1 200 := ⟨by decide, rfl, rfl, by decide⟩
theorem sh_told : isLsn 3 := ⟨by decide, rfl, ⟨by decide, rfl, rfl, by decide⟩, ⟨by decide, rfl, rfl, by decide⟩, ⟨by decide, rfl, rfl, by decide⟩, ⟨by decide, rfl, rfl, by decide⟩, ⟨by decide, rfl, rfl, by decide⟩, ⟨by decide, rfl, rfl, by decide⟩⟩
theorem sh_numbers : isNum 17 5 := ⟨by decide, rfl, rfl, by decide⟩
theorem sh_laid : isLsn 19 := ⟨by decide, rfl, ⟨by decide, rfl, rfl, by decide⟩, ⟨by decide, rfl, rfl, by decide⟩, ⟨by decide, rfl, rfl, by decide⟩, ⟨by decide, rfl, rfl, by decide⟩, ⟨by decide, rfl, rfl, by decide⟩, ⟨by decide, rfl, rfl, by decide⟩⟩
theorem sh_seen : isNum 91 8 := ⟨by decide, rfl, rfl, by decide⟩
theorem sh_times : isNum 93 60 := ⟨by decide, rfl, rfl, by decide⟩
theorem sh_alike : isNum 95 6 := ⟨by decide, rfl, rfl, by decide⟩
theorem sh_left : isNum 138 6 := ⟨by decide, rfl, rfl, by decide⟩
theorem sh_tried : isNum 140 7 := ⟨by decide, rfl, rfl, by decide⟩
theorem sh_best : isNum 142 7 := ⟨by decide, rfl, rfl, by decide⟩
theorem sh_memory : isMem 32 := ⟨by decide, rfl, ⟨by decide, rfl, rfl, by decide⟩, ⟨by decide, rfl, rfl, by decide⟩⟩
theorem sh_past : isShf 37 8 := ⟨by decide, rfl, rfl, by decide⟩
theorem sh_kept : isShf 79 2 := ⟨by decide, rfl, rfl, by decide⟩
def lrnB (j : Nat) : Option Nat := if j < 7 then some (97 + 5 * j + 5) else none
theorem sh_lrn : ∀ j : Nat, (hj : j < 8) → isLrn (97 + 5 * j) (lrnB j)
  | 0, _ => ⟨by decide, rfl, ⟨by decide, rfl, rfl, by decide⟩, ⟨by decide, rfl, rfl, by decide⟩⟩
  | 1, _ => ⟨by decide, rfl, ⟨by decide, rfl, rfl, by decide⟩, ⟨by decide, rfl, rfl, by decide⟩⟩
  | 2, _ => ⟨by decide, rfl, ⟨by decide, rfl, rfl, by decide⟩, ⟨by decide, rfl, rfl, by decide⟩⟩
  | 3, _ => ⟨by decide, rfl, ⟨by decide, rfl, rfl, by decide⟩, ⟨by decide, rfl, rfl, by decide⟩⟩
  | 4, _ => ⟨by decide, rfl, ⟨by decide, rfl, rfl, by decide⟩, ⟨by decide, rfl, rfl, by decide⟩⟩
  | 5, _ => ⟨by decide, rfl, ⟨by decide, rfl, rfl, by decide⟩, ⟨by decide, rfl, rfl, by decide⟩⟩
  | 6, _ => ⟨by decide, rfl, ⟨by decide, rfl, rfl, by decide⟩, ⟨by decide, rfl, rfl, by decide⟩⟩
  | 7, _ => ⟨by decide, rfl, ⟨by decide, rfl, rfl, by decide⟩, ⟨by decide, rfl, rfl, by decide⟩⟩
theorem sh_pastM : ∀ j : Nat, (hj : j < 8) → isMem (39 + 5 * j)
  | 0, _ => ⟨by decide, rfl, ⟨by decide, rfl, rfl, by decide⟩, ⟨by decide, rfl, rfl, by decide⟩⟩
  | 1, _ => ⟨by decide, rfl, ⟨by decide, rfl, rfl, by decide⟩, ⟨by decide, rfl, rfl, by decide⟩⟩
  | 2, _ => ⟨by decide, rfl, ⟨by decide, rfl, rfl, by decide⟩, ⟨by decide, rfl, rfl, by decide⟩⟩
  | 3, _ => ⟨by decide, rfl, ⟨by decide, rfl, rfl, by decide⟩, ⟨by decide, rfl, rfl, by decide⟩⟩
  | 4, _ => ⟨by decide, rfl, ⟨by decide, rfl, rfl, by decide⟩, ⟨by decide, rfl, rfl, by decide⟩⟩
  | 5, _ => ⟨by decide, rfl, ⟨by decide, rfl, rfl, by decide⟩, ⟨by decide, rfl, rfl, by decide⟩⟩
  | 6, _ => ⟨by decide, rfl, ⟨by decide, rfl, rfl, by decide⟩, ⟨by decide, rfl, rfl, by decide⟩⟩
  | 7, _ => ⟨by decide, rfl, ⟨by decide, rfl, rfl, by decide⟩, ⟨by decide, rfl, rfl, by decide⟩⟩
theorem sh_keptM : ∀ j : Nat, (hj : j < 2) → isMem (81 + 5 * j)
  | 0, _ => ⟨by decide, rfl, ⟨by decide, rfl, rfl, by decide⟩, ⟨by decide, rfl, rfl, by decide⟩⟩
  | 1, _ => ⟨by decide, rfl, ⟨by decide, rfl, rfl, by decide⟩, ⟨by decide, rfl, rfl, by decide⟩⟩

/-- what a Numbers object holds -/
def Num (σ : f_Mem) (n cap : Nat) (l : List Nat) : Prop := isNum n cap ∧ σ n 1 = iI l.length ∧ l.length ≤ cap ∧ ∀ i v : Nat, l[i]? = some v → σ (n + 1) i = iI v
theorem Num.sh {σ : f_Mem} {n cap : Nat} {l : List Nat} (h : Num σ n cap l) : isNum n cap := h.1
theorem Num.size {σ : f_Mem} {n cap : Nat} {l : List Nat} (h : Num σ n cap l) : σ n 1 = iI l.length := h.2.1
theorem Num.le {σ : f_Mem} {n cap : Nat} {l : List Nat} (h : Num σ n cap l) : l.length ≤ cap := h.2.2.1
theorem Num.at {σ : f_Mem} {n cap : Nat} {l : List Nat} (h : Num σ n cap l) {i v : Nat} (hi : l[i]? = some v) : σ (n + 1) i = iI v := h.2.2.2 i v hi
theorem Num.lt31 {σ : f_Mem} {n cap : Nat} {l : List Nat} (h : Num σ n cap l) : l.length < 2147483648 := Nat.lt_of_le_of_lt h.le h.sh.cap
theorem Num.atD {σ : f_Mem} {n cap : Nat} {l : List Nat} (h : Num σ n cap l) {i : Nat} (hi : i < l.length) : σ (n + 1) i = iI (l.getD i 0 : Nat) := h.at (by simp [List.getD, hi])
theorem Num.frame {σ u : f_Mem} {n cap : Nat} {l : List Nat} (h : Num σ n cap l) (h0 : u n = σ n) (h1 : u (n + 1) = σ (n + 1)) : Num u n cap l := ⟨h.1, by rw [h0]; exact h.2.1, h.2.2.1, fun i v hi => by rw [h1]; exact h.2.2.2 i v hi⟩
/-- nothing but the cells from a to ahead of b has changed -/
def Fr (σ u : f_Mem) (a b : Nat) : Prop := ∀ k, (k < a ∨ b ≤ k) → u k = σ k
theorem Fr.rf {σ : f_Mem} {a b : Nat} : Fr σ σ a b := fun _ _ => rfl
theorem Fr.tr {σ u v : f_Mem} {a b : Nat} (h1 : Fr σ u a b) (h2 : Fr u v a b) : Fr σ v a b := fun k hk => (h2 k hk).trans (h1 k hk)
theorem Fr.mono {σ u : f_Mem} {a b c d : Nat} (h : Fr σ u a b) (h1 : c ≤ a) (h2 : b ≤ d) : Fr σ u c d := fun k hk => h k (by omega)
theorem Num.fr {σ u : f_Mem} {n cap a b : Nat} {l : List Nat} (h : Num σ n cap l) (hf : Fr σ u a b) (hd : n + 1 < a ∨ b ≤ n) : Num u n cap l := h.frame (hf n (by omega)) (hf (n + 1) (by omega))
theorem m_set_at {σ : f_Mem} {n j : Nat} {v : Int32} : m_set σ n j v n j = v := by simp [m_set, m_row, upd]
theorem m_set_j {σ : f_Mem} {n j i : Nat} {v : Int32} (h : i ≠ j) : m_set σ n j v n i = σ n i := by simp [m_set, m_row, upd, h]
theorem m_set_n {σ : f_Mem} {n j k : Nat} {v : Int32} (h : k ≠ n) : m_set σ n j v k = σ k := by simp [m_set, m_row, h]
theorem m_row_at {σ : f_Mem} {n : Nat} {f : Nat → Int32} : m_row σ n f n = f := by simp [m_row]
theorem m_row_n {σ : f_Mem} {n k : Nat} {f : Nat → Int32} (h : k ≠ n) : m_row σ n f k = σ k := by simp [m_row, h]
theorem Fr.set {σ : f_Mem} {n j a b : Nat} {v : Int32} (h : a ≤ n ∧ n < b) : Fr σ (m_set σ n j v) a b := fun k hk => m_set_n (by omega)
theorem Fr.row {σ : f_Mem} {n a b : Nat} {f : Nat → Int32} (h : a ≤ n ∧ n < b) : Fr σ (m_row σ n f) a b := fun k hk => m_row_n (by omega)

