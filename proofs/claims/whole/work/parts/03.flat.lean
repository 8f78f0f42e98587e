
def tb : List Cond := lw_tbl.filter goodWord
theorem tb_in {w : Cond} (h : w ∈ lw_tbl) (g : goodWord w = true) : w ∈ tb := List.mem_filter.mpr ⟨h, g⟩
theorem tb_good : ∀ w ∈ tb, (w.onTables && w.keeps) = true ∨ ∃ ty, w = .arrayClass ty := fun w h => good_of_word (List.mem_filter.mp h).2
theorem tb_hts {args : Array Value} {s : State} (h : ∀ w ∈ lw_tbl, w.before args s = true) : ∀ w ∈ tb, w.before args s = true := fun w hw => h w (List.mem_filter.mp hw).1
def isN : Cond → Bool
  | .fieldLinkNest .. => true
  | .methodLinkNest .. => true
  | _ => false
def nw : List Cond := lw_tbl.filter isN
theorem nw_in {w : Cond} (h : w ∈ lw_tbl) (g : isN w = true) : w ∈ nw := List.mem_filter.mpr ⟨h, g⟩
theorem nw_tab {w : Cond} (h : w ∈ nw) : w.onTables = true := by
  have h2 := (List.mem_filter.mp h).2
  cases w <;> first | rfl | (simp [isN] at h2; done)
def f_NW (U : State) : Prop := ∀ w ∈ nw, va_Nw w U
theorem f_NW.warm {s U : State} (hW : s.WarmedH U.vm) (h : f_NW s) : f_NW U := fun w hw => by
  have h2 := (List.mem_filter.mp hw).2
  have h3 := h w hw
  cases w <;> first | (simp [isN] at h2; done) | exact va_Nw.warmF hW h3 | exact va_Nw.warmM hW h3
theorem f_NW.same {u U : State} (hv : u.vm = U.vm) (h : f_NW u) : f_NW U := fun w hw => va_Nw.same (nw_tab hw) hv (h w hw)
theorem f_NW.of {args : Array Value} {s : State} (h : ∀ w ∈ lw_tbl, w.before args s = true) : f_NW s := fun w hw => va_Nw.of (nw_tab hw) (h w (List.mem_filter.mp hw).1)
theorem f_NW.use {args : Array Value} {s : State} (h : f_NW s) : ∀ w ∈ nw, w.before args s = true := fun w hw => va_Nw.use (nw_tab hw) (h w hw)
abbrev f_Mem : Type := Nat → Nat → Int32
abbrev f_Shp : Type := (Nat × List (Option (Option Nat))) ⊕ (Nat ⊕ Nat)
abbrev f_L : Type := List (Option Value)
abbrev f_G : Type := Nat → f_L → List Value → f_Mem → Prop
abbrev f_Y : Type := MethodName × ByteArray × Nat × Option FieldType
abbrev f_E : Type := Launch × va_G × ClassId × ClassId × (Nat → Nat)
abbrev f_S : Type := Nat × (Nat → f_Shp)
def f_ad (E : f_E) : Nat → Nat := E.2.2.2.2
def f_fld (ad : Nat → Nat) (c : Nat → Int32) : Nat → List (Option (Option Nat)) → List Value
  | _, [] => []
  | j, none :: t => .int (c j) :: f_fld ad c (j + 1) t
  | j, some none :: t => .null :: f_fld ad c (j + 1) t
  | j, some (some r) :: t => .ref (ad r) :: f_fld ad c (j + 1) t
def f_cell (E : f_E) (S : f_S) (σ : f_Mem) (k : Nat) : va_E := match S.2 k with
  | .inl q => .inr (q.1, f_fld (f_ad E) (σ k) 0 q.2)
  | .inr (.inl n) => .inl (E.2.2.1, (n, .inl (σ k)))
  | .inr (.inr n) => .inl (E.2.2.2.1, (n, .inr (.inr (.inr (.inr (fun j => some (f_ad E (σ k j).toNatClampNeg)))))))
def f_wl (E : f_E) (S : f_S) (σ : f_Mem) : va_W := (List.range S.1).map (fun k => (f_ad E k, f_cell E S σ k))
def f_P (E : f_E) (S : f_S) (σ : f_Mem) (H : Heap) : Prop := va_P E.2.1 vwCl (f_wl E S σ) H
def f_tys (E : f_E) : List (ClassId × FieldType) := [(E.2.2.1, .int), (E.2.2.2.1, .object RX2)]
def f_K (E : f_E) (U : State) : Prop := va_K E.2.1 vwCl (f_tys E) U
def f_A (E : f_E) (S : f_S) (sz : Nat) : Nat → Prop := fun q => (∃ k, k < S.1 ∧ q = f_ad E k) ∨ sz ≤ q
def f_I (E : f_E) (S : f_S) : Prop := ∀ i j : Nat, i < S.1 → j < S.1 → f_ad E i = f_ad E j → i = j
def m_row (σ : f_Mem) (n : Nat) (f : Nat → Int32) : f_Mem := fun k => if k = n then f else σ k
def m_set (σ : f_Mem) (n j : Nat) (v : Int32) : f_Mem := m_row σ n (upd (σ n) j v)
theorem f_wl_at (E : f_E) (S : f_S) (σ : f_Mem) {n : Nat} (h : n < S.1) : (f_wl E S σ)[n]? = some (f_ad E n, f_cell E S σ n) := by
  unfold f_wl
  rw [List.getElem?_map, List.getElem?_range h]; rfl
theorem f_wl_of (E : f_E) (S : f_S) (σ : f_Mem) {k : Nat} {q : Nat × va_E} (h : (f_wl E S σ)[k]? = some q) : k < S.1 ∧ q = (f_ad E k, f_cell E S σ k) := by
  unfold f_wl at h
  have hl := (List.getElem?_eq_some_iff.mp h).1
  rw [List.length_map, List.length_range] at hl
  rw [List.getElem?_map, List.getElem?_range hl] at h
  exact ⟨hl, (Option.some.inj h).symm⟩
theorem f_D {E : f_E} {S : f_S} {A : Nat → Prop} (hI : f_I E S) (hA : ∀ k, k < S.1 → A (f_ad E k)) (σ : f_Mem) : va_D A (f_wl E S σ) := by
  refine ⟨fun i j p q hi hj hpq => ?_, fun k q hk => ?_⟩
  · obtain ⟨h1, rfl⟩ := f_wl_of E S σ hi
    obtain ⟨h2, rfl⟩ := f_wl_of E S σ hj
    exact hI i j h1 h2 hpq
  · obtain ⟨h1, rfl⟩ := f_wl_of E S σ hk
    exact hA k h1
theorem f_cell_row {E : f_E} {S : f_S} {σ : f_Mem} {n k : Nat} {f : Nat → Int32} (h : k ≠ n) : f_cell E S (m_row σ n f) k = f_cell E S σ k := by
  unfold f_cell m_row
  rw [if_neg h]
theorem f_wl_set {E : f_E} {S : f_S} {σ : f_Mem} {n : Nat} {f : Nat → Int32} {x : va_E} (hn : n < S.1) (hx : f_cell E S (m_row σ n f) n = x) : (f_wl E S σ).set n (f_ad E n, x) = f_wl E S (m_row σ n f) := by
  apply List.ext_getElem?
  intro k
  by_cases hk : k = n
  · subst hk
    rw [List.getElem?_set_self (by unfold f_wl; rw [List.length_map, List.length_range]; exact hn), f_wl_at E S _ hn, hx]
  · rw [List.getElem?_set_ne (Ne.symm hk)]
    unfold f_wl
    rw [List.getElem?_map, List.getElem?_map]
    cases h : (List.range S.1)[k]? with
    | none => rfl
    | some j =>
      have hj : j = k := by
        have hl := (List.getElem?_eq_some_iff.mp h).1
        rw [List.length_range] at hl
        rw [List.getElem?_range hl] at h
        exact (Option.some.inj h).symm
      subst hj
      show some (f_ad E j, f_cell E S σ j) = some (f_ad E j, f_cell E S (m_row σ n f) j)
      rw [f_cell_row hk]
theorem f_cell_o {E : f_E} {S : f_S} {σ : f_Mem} {n ci : Nat} {fs : List (Option (Option Nat))} (h : S.2 n = .inl (ci, fs)) : f_cell E S σ n = .inr (ci, f_fld (f_ad E) (σ n) 0 fs) := by
  unfold f_cell; rw [h]
theorem f_cell_i {E : f_E} {S : f_S} {σ : f_Mem} {n len : Nat} (h : S.2 n = .inr (.inl len)) : f_cell E S σ n = .inl (E.2.2.1, (len, .inl (σ n))) := by
  unfold f_cell; rw [h]
theorem f_cell_q {E : f_E} {S : f_S} {σ : f_Mem} {n len : Nat} (h : S.2 n = .inr (.inr len)) : f_cell E S σ n = .inl (E.2.2.2.1, (len, .inr (.inr (.inr (.inr (fun j => some (f_ad E (σ n j).toNatClampNeg))))))) := by
  unfold f_cell; rw [h]
theorem f_fld_get (ad : Nat → Nat) (c : Nat → Int32) : ∀ (fs : List (Option (Option Nat))) (j k : Nat), (f_fld ad c j fs)[k]? = (fs[k]?).map (fun x => match x with | none => Value.int (c (j + k)) | some none => .null | some (some r) => .ref (ad r))
  | [], j, k => by simp [f_fld]
  | none :: t, j, 0 => by simp [f_fld]
  | some none :: t, j, 0 => by simp [f_fld]
  | some (some r) :: t, j, 0 => by simp [f_fld]
  | none :: t, j, k + 1 => by simp only [f_fld, List.getElem?_cons_succ]; rw [f_fld_get ad c t (j + 1) k, Nat.add_assoc, Nat.add_comm 1 k]
  | some none :: t, j, k + 1 => by simp only [f_fld, List.getElem?_cons_succ]; rw [f_fld_get ad c t (j + 1) k, Nat.add_assoc, Nat.add_comm 1 k]
  | some (some r) :: t, j, k + 1 => by simp only [f_fld, List.getElem?_cons_succ]; rw [f_fld_get ad c t (j + 1) k, Nat.add_assoc, Nat.add_comm 1 k]
theorem f_fld_len (ad : Nat → Nat) (c : Nat → Int32) : ∀ (fs : List (Option (Option Nat))) (j : Nat), (f_fld ad c j fs).length = fs.length
  | [], j => rfl
  | none :: t, j => by simp [f_fld, f_fld_len ad c t]
  | some none :: t, j => by simp [f_fld, f_fld_len ad c t]
  | some (some r) :: t, j => by simp [f_fld, f_fld_len ad c t]
theorem f_fld_set (ad : Nat → Nat) (c : Nat → Int32) (fs : List (Option (Option Nat))) (k : Nat) (v : Int32) (h : fs[k]? = some none) : (f_fld ad c 0 fs).set k (.int v) = f_fld ad (upd c k v) 0 fs := by
  apply List.ext_getElem?
  intro i
  have hl : k < (f_fld ad c 0 fs).length := by rw [f_fld_len]; exact (List.getElem?_eq_some_iff.mp h).1
  by_cases hi : i = k
  · subst hi
    rw [List.getElem?_set_self hl, f_fld_get, h]
    simp [upd]
  · rw [List.getElem?_set_ne (Ne.symm hi), f_fld_get, f_fld_get]
    congr 1
    funext x
    match x with
    | none => simp [upd, hi]
    | some none => rfl
    | some (some r) => rfl
/-! locals -/
def f_lv : Nat → f_L → List (Nat × Value)
  | _, [] => []
  | i, none :: t => f_lv (i + 1) t
  | i, some v :: t => (i, v) :: f_lv (i + 1) t
theorem f_lv_mem : ∀ (L : f_L) (i : Nat) (q : Nat × Value), q ∈ f_lv i L ↔ ∃ j, q.1 = i + j ∧ L[j]? = some (some q.2)
  | [], i, q => by simp [f_lv]
  | none :: t, i, q => by
    simp only [f_lv]
    rw [f_lv_mem t (i + 1) q]
    constructor
    · rintro ⟨j, h1, h2⟩; exact ⟨j + 1, by omega, by simpa using h2⟩
    · rintro ⟨j, h1, h2⟩
      cases j with
      | zero => simp at h2
      | succ j => exact ⟨j, by omega, by simpa using h2⟩
  | some v :: t, i, q => by
    simp only [f_lv, List.mem_cons]
    rw [f_lv_mem t (i + 1) q]
    constructor
    · rintro (h | ⟨j, h1, h2⟩)
      · subst h; exact ⟨0, rfl, rfl⟩
      · exact ⟨j + 1, by omega, by simpa using h2⟩
    · rintro ⟨j, h1, h2⟩
      cases j with
      | zero =>
        left
        obtain ⟨a, b⟩ := q
        simp at h1 h2
        rw [h1, h2]
      | succ j => right; exact ⟨j, by omega, by simpa using h2⟩
def f_ls (ls : Array Slot) (nL : Nat) (L : f_L) : Prop := lv_has ls nL (f_lv 0 L) ∧ L.length = nL
theorem f_ls.at {ls : Array Slot} {nL : Nat} {L : f_L} (h : f_ls ls nL L) {i : Nat} {v : Value} (hi : L[i]? = some (some v)) : ls[i]? = some (.val v) := h.1.2.2 (i, v) ((f_lv_mem L 0 (i, v)).mpr ⟨i, by simp, hi⟩)
/-- the slot ahead holds no long's first half -/
def f_nl (L : f_L) : Nat → Bool
  | 0 => true
  | j + 1 => match L[j]? with
    | some (some v) => v.category == 1
    | _ => true
theorem f_ls_set {ls' : Array Slot} {nL : Nat} {L : f_L} {i : Nat} {v : Value} (hL : L.length = nL) (hp : f_nl L i = true) (h : lv_has ls' nL ((i, v) :: (f_lv 0 L).filter (fun q => !(q.1 == i) && !(q.1 + 1 == i && q.2.category == 2)))) : f_ls ls' nL (L.set i (some v)) := by
  refine ⟨⟨h.1, h.2.1, fun q hq => h.2.2 q ?_⟩, by rw [List.length_set]; exact hL⟩
  obtain ⟨j, h1, h2⟩ := (f_lv_mem _ 0 q).mp hq
  obtain ⟨a, b⟩ := q
  simp only [Nat.zero_add] at h1
  subst h1
  by_cases hj : a = i
  · subst hj
    have hl : a < L.length := by
      have := (List.getElem?_eq_some_iff.mp h2).1
      rwa [List.length_set] at this
    rw [List.getElem?_set_self hl] at h2
    cases h2
    exact List.mem_cons_self
  · rw [List.getElem?_set_ne (Ne.symm hj)] at h2
    refine List.mem_cons_of_mem _ (List.mem_filter.mpr ⟨(f_lv_mem _ 0 _).mpr ⟨a, by simp, h2⟩, ?_⟩)
    have h3 : (a == i) = false := by simpa using hj
    by_cases h4 : a + 1 = i
    · subst h4
      simp only [f_nl, h2] at hp
      have h5 : b.category = 1 := by simpa using hp
      simp [h3, h5]
    · simp [h3, h4]
theorem f_ls_set2 {ls' : Array Slot} {nL : Nat} {L : f_L} {i : Nat} {v : Value} (hL : L.length = nL) (hp : f_nl L i = true) (h : lv_has ls' nL ((i, v) :: (f_lv 0 L).filter (fun q => !(q.1 == i) && (!(q.1 == i + 1) && !(q.1 + 1 == i && q.2.category == 2))))) : f_ls ls' nL ((L.set i (some v)).set (i + 1) none) := by
  refine ⟨⟨h.1, h.2.1, fun q hq => h.2.2 q ?_⟩, by rw [List.length_set, List.length_set]; exact hL⟩
  obtain ⟨j, h1, h2⟩ := (f_lv_mem _ 0 q).mp hq
  obtain ⟨a, b⟩ := q
  simp only [Nat.zero_add] at h1
  subst h1
  have hl : a < L.length := by
    have := (List.getElem?_eq_some_iff.mp h2).1
    rwa [List.length_set, List.length_set] at this
  by_cases hj2 : a = i + 1
  · subst hj2
    rw [List.getElem?_set_self (by rw [List.length_set]; exact hl)] at h2
    cases h2
  rw [List.getElem?_set_ne (Ne.symm hj2)] at h2
  by_cases hj : a = i
  · subst hj
    rw [List.getElem?_set_self hl] at h2
    cases h2
    exact List.mem_cons_self
  · rw [List.getElem?_set_ne (Ne.symm hj)] at h2
    refine List.mem_cons_of_mem _ (List.mem_filter.mpr ⟨(f_lv_mem _ 0 _).mpr ⟨a, by simp, h2⟩, ?_⟩)
    have h3 : (a == i) = false := by simpa using hj
    have h3' : (a == i + 1) = false := by simpa using hj2
    by_cases h4 : a + 1 = i
    · subst h4
      simp only [f_nl, h2] at hp
      have h5 : b.category = 1 := by simpa using hp
      simp [h3, h3', h5]
    · simp [h3, h3', h4]
/-! contracts -/
def f_Q {ρ : Type} (E : f_E) (S : f_S) (enc : ρ → Option Value) (post : ρ → f_Mem → Prop) (A : Nat → Prop) : Array Value → State → Outcome → State → Prop := fun _ st o t => (∃ (r : ρ) (u : f_Mem), o = .returned (enc r) ∧ post r u ∧ f_P E S u t.heap ∧ f_K E t) ∧ va_F A st t
def f_Pc (E : f_E) (S : f_S) (av : List Value) (σ : f_Mem) (sz : Nat) : Array Value → State → Prop := va_Pc av (fun U => U.heap.size = sz ∧ f_P E S σ U.heap ∧ f_K E U ∧ f_NW U ∧ f_I E S)
def f_rm (d : Nat) : Room := { frames := d, cells := 0, slots := 0, locals := 60 * d }
def FM {ρ : Type} (E : f_E) (S : f_S) (Y : f_Y) (d : Nat) (av : List Value) (σ : f_Mem) (enc : ρ → Option Value) (post : ρ → f_Mem → Prop) : Prop :=
  ∀ sz : Nat, Met E.1 Y.1 (Cond.code Y.1 Y.2.1 Y.2.2.1 Y.2.2.2 :: tb) (f_rm d) (f_Pc E S av σ sz) (f_Q E S enc post (f_A E S sz)) 0 0 (f_A E S sz)
def eI : Int32 → Option Value := fun r => some (.int r)
def eV : Unit → Option Value := fun _ => none
def eL : Int64 → Option Value := fun r => some (.long r)
def eQ (E : f_E) : Option Nat → Option Value := fun r => some (va_rf (r.map (f_ad E)))
/-! what links a row to the tables -/
def f_FL (own : String) (index ci k : Nat) : Prop := ∃ (C : String) (T : u_T) (N : Nat), vwCl[ci]? = some (C, T, N) ∧ (∀ w ∈ u_ws C T N, w ∈ tb) ∧ k < N ∧ (Cond.fieldLink own index (T k).1 (T k).2.1 (T k).2.2.1 ∈ tb ∨ ∃ host, Cond.fieldLinkNest own index (T k).1 (T k).2.1 (T k).2.2.1 host ∈ nw)
def f_FP (own : String) (index ci k : Nat) : Prop := ∃ (C : String) (T : u_T) (N : Nat), vwCl[ci]? = some (C, T, N) ∧ (∀ w ∈ u_ws C T N, w ∈ tb) ∧ k < N ∧ (Cond.fieldLink own index (T k).1 (T k).2.1 (T k).2.2.1 ∈ tb ∨ ∃ host, Cond.fieldLinkNest own index (T k).1 (T k).2.1 (T k).2.2.1 host ∈ nw) ∧ (∃ ty0 : Nat → FieldType, ∀ k, k < N → parseFieldDescriptor (T k).2.2.1 = some (ty0 k)) ∧ (∀ a, a < N → ∀ b, b < N → a ≠ b → (T a).2.1 ≠ (T b).2.1) ∧ (T k).2.2.2 = false ∧ parseFieldDescriptor (T k).2.2.1 = some .int
def f_hd (Y : f_Y) (n : Nat) : Prop := (Y.1.cls ≠ "java/lang/invoke/MethodHandle" ∧ Y.1.cls ≠ "java/lang/invoke/VarHandle" ∧ (parseMethodDescriptor Y.1.desc).map (fun d => d.parameters.length) = some n) ∧ Y.2.2.1 ≤ 41
def f_LC (Y : f_Y) : Prop := Cond.code Y.1 Y.2.1 Y.2.2.1 Y.2.2.2 ∈ tb ∧ Cond.initialized Y.1.cls ∈ tb
def f_LV (own : String) (index : Nat) (Y : f_Y) (n : Nat) : Prop := f_LC Y ∧ Cond.instanceMethod Y.1 ∈ tb ∧ Cond.selects Y.1.cls Y.1 Y.1 ∈ tb ∧ (Cond.methodLink own index Y.1 ∈ tb ∨ ∃ host, Cond.methodLinkNest own index Y.1 host ∈ nw) ∧ f_hd Y n
def f_LS (own : String) (index : Nat) (Y : f_Y) (n : Nat) : Prop := f_LC Y ∧ Cond.static Y.1 ∈ tb ∧ (Cond.methodLink own index Y.1 ∈ tb ∨ ∃ host, Cond.methodLinkNest own index Y.1 host ∈ nw) ∧ f_hd Y n

def r_iadd {ρ0 : Type} (cc : ByteArray) (own : String) (ret : Option FieldType) (D : Nat) (E : f_E) (S : f_S) (encR : ρ0 → Option Value) (post : ρ0 → f_Mem → Prop) (G : f_G) : Prop := ∀ (pc : Nat) (L : f_L) (st : List Value) (σ : f_Mem) (x y : Int32), (decode cc pc = .ok (.iadd, 1)) → G (pc + 1) L (.int (x + y) :: st) σ → G pc L (.int y :: .int x :: st) σ
def r_isub {ρ0 : Type} (cc : ByteArray) (own : String) (ret : Option FieldType) (D : Nat) (E : f_E) (S : f_S) (encR : ρ0 → Option Value) (post : ρ0 → f_Mem → Prop) (G : f_G) : Prop := ∀ (pc : Nat) (L : f_L) (st : List Value) (σ : f_Mem) (x y : Int32), (decode cc pc = .ok (.isub, 1)) → G (pc + 1) L (.int (x - y) :: st) σ → G pc L (.int y :: .int x :: st) σ
def r_imul {ρ0 : Type} (cc : ByteArray) (own : String) (ret : Option FieldType) (D : Nat) (E : f_E) (S : f_S) (encR : ρ0 → Option Value) (post : ρ0 → f_Mem → Prop) (G : f_G) : Prop := ∀ (pc : Nat) (L : f_L) (st : List Value) (σ : f_Mem) (x y : Int32), (decode cc pc = .ok (.imul, 1)) → G (pc + 1) L (.int (x * y) :: st) σ → G pc L (.int y :: .int x :: st) σ
def r_idiv {ρ0 : Type} (cc : ByteArray) (own : String) (ret : Option FieldType) (D : Nat) (E : f_E) (S : f_S) (encR : ρ0 → Option Value) (post : ρ0 → f_Mem → Prop) (G : f_G) : Prop := ∀ (pc : Nat) (L : f_L) (st : List Value) (σ : f_Mem) (x y : Int32), (decode cc pc = .ok (.idiv, 1)) → (¬ y = 0) → G (pc + 1) L (.int (x / y) :: st) σ → G pc L (.int y :: .int x :: st) σ
def r_irem {ρ0 : Type} (cc : ByteArray) (own : String) (ret : Option FieldType) (D : Nat) (E : f_E) (S : f_S) (encR : ρ0 → Option Value) (post : ρ0 → f_Mem → Prop) (G : f_G) : Prop := ∀ (pc : Nat) (L : f_L) (st : List Value) (σ : f_Mem) (x y : Int32), (decode cc pc = .ok (.irem, 1)) → (¬ y = 0) → G (pc + 1) L (.int (x - x / y * y) :: st) σ → G pc L (.int y :: .int x :: st) σ
def r_iand {ρ0 : Type} (cc : ByteArray) (own : String) (ret : Option FieldType) (D : Nat) (E : f_E) (S : f_S) (encR : ρ0 → Option Value) (post : ρ0 → f_Mem → Prop) (G : f_G) : Prop := ∀ (pc : Nat) (L : f_L) (st : List Value) (σ : f_Mem) (x y : Int32), (decode cc pc = .ok (.iand, 1)) → G (pc + 1) L (.int (x &&& y) :: st) σ → G pc L (.int y :: .int x :: st) σ
def r_ior {ρ0 : Type} (cc : ByteArray) (own : String) (ret : Option FieldType) (D : Nat) (E : f_E) (S : f_S) (encR : ρ0 → Option Value) (post : ρ0 → f_Mem → Prop) (G : f_G) : Prop := ∀ (pc : Nat) (L : f_L) (st : List Value) (σ : f_Mem) (x y : Int32), (decode cc pc = .ok (.ior, 1)) → G (pc + 1) L (.int (x ||| y) :: st) σ → G pc L (.int y :: .int x :: st) σ
def r_ixor {ρ0 : Type} (cc : ByteArray) (own : String) (ret : Option FieldType) (D : Nat) (E : f_E) (S : f_S) (encR : ρ0 → Option Value) (post : ρ0 → f_Mem → Prop) (G : f_G) : Prop := ∀ (pc : Nat) (L : f_L) (st : List Value) (σ : f_Mem) (x y : Int32), (decode cc pc = .ok (.ixor, 1)) → G (pc + 1) L (.int (x ^^^ y) :: st) σ → G pc L (.int y :: .int x :: st) σ
def r_ishl {ρ0 : Type} (cc : ByteArray) (own : String) (ret : Option FieldType) (D : Nat) (E : f_E) (S : f_S) (encR : ρ0 → Option Value) (post : ρ0 → f_Mem → Prop) (G : f_G) : Prop := ∀ (pc : Nat) (L : f_L) (st : List Value) (σ : f_Mem) (x y : Int32), (decode cc pc = .ok (.ishl, 1)) → G (pc + 1) L (.int (x <<< (y &&& 31)) :: st) σ → G pc L (.int y :: .int x :: st) σ
def r_ishr {ρ0 : Type} (cc : ByteArray) (own : String) (ret : Option FieldType) (D : Nat) (E : f_E) (S : f_S) (encR : ρ0 → Option Value) (post : ρ0 → f_Mem → Prop) (G : f_G) : Prop := ∀ (pc : Nat) (L : f_L) (st : List Value) (σ : f_Mem) (x y : Int32), (decode cc pc = .ok (.ishr, 1)) → G (pc + 1) L (.int (x >>> (y &&& 31)) :: st) σ → G pc L (.int y :: .int x :: st) σ
def r_iushr {ρ0 : Type} (cc : ByteArray) (own : String) (ret : Option FieldType) (D : Nat) (E : f_E) (S : f_S) (encR : ρ0 → Option Value) (post : ρ0 → f_Mem → Prop) (G : f_G) : Prop := ∀ (pc : Nat) (L : f_L) (st : List Value) (σ : f_Mem) (x y v : Int32), (decode cc pc = .ok (.iushr, 1)) → ((x.toUInt32 >>> (y.toUInt32 &&& Int32.toUInt32 31)).toInt32 = v) → G (pc + 1) L (.int v :: st) σ → G pc L (.int y :: .int x :: st) σ
def r_ladd {ρ0 : Type} (cc : ByteArray) (own : String) (ret : Option FieldType) (D : Nat) (E : f_E) (S : f_S) (encR : ρ0 → Option Value) (post : ρ0 → f_Mem → Prop) (G : f_G) : Prop := ∀ (pc : Nat) (L : f_L) (st : List Value) (σ : f_Mem) (x y : Int64), (decode cc pc = .ok (.ladd, 1)) → G (pc + 1) L (.long (x + y) :: st) σ → G pc L (.long y :: .long x :: st) σ
def r_lmul {ρ0 : Type} (cc : ByteArray) (own : String) (ret : Option FieldType) (D : Nat) (E : f_E) (S : f_S) (encR : ρ0 → Option Value) (post : ρ0 → f_Mem → Prop) (G : f_G) : Prop := ∀ (pc : Nat) (L : f_L) (st : List Value) (σ : f_Mem) (x y : Int64), (decode cc pc = .ok (.lmul, 1)) → G (pc + 1) L (.long (x * y) :: st) σ → G pc L (.long y :: .long x :: st) σ
def r_ldiv {ρ0 : Type} (cc : ByteArray) (own : String) (ret : Option FieldType) (D : Nat) (E : f_E) (S : f_S) (encR : ρ0 → Option Value) (post : ρ0 → f_Mem → Prop) (G : f_G) : Prop := ∀ (pc : Nat) (L : f_L) (st : List Value) (σ : f_Mem) (x y : Int64), (decode cc pc = .ok (.ldiv, 1)) → (¬ y = 0) → G (pc + 1) L (.long (x / y) :: st) σ → G pc L (.long y :: .long x :: st) σ
def r_lrem {ρ0 : Type} (cc : ByteArray) (own : String) (ret : Option FieldType) (D : Nat) (E : f_E) (S : f_S) (encR : ρ0 → Option Value) (post : ρ0 → f_Mem → Prop) (G : f_G) : Prop := ∀ (pc : Nat) (L : f_L) (st : List Value) (σ : f_Mem) (x y : Int64), (decode cc pc = .ok (.lrem, 1)) → (¬ y = 0) → G (pc + 1) L (.long (x - x / y * y) :: st) σ → G pc L (.long y :: .long x :: st) σ
def r_i2l {ρ0 : Type} (cc : ByteArray) (own : String) (ret : Option FieldType) (D : Nat) (E : f_E) (S : f_S) (encR : ρ0 → Option Value) (post : ρ0 → f_Mem → Prop) (G : f_G) : Prop := ∀ (pc : Nat) (L : f_L) (st : List Value) (σ : f_Mem) (x : Int32), (decode cc pc = .ok (.i2l, 1)) → G (pc + 1) L (.long x.toInt64 :: st) σ → G pc L (.int x :: st) σ
def r_l2i {ρ0 : Type} (cc : ByteArray) (own : String) (ret : Option FieldType) (D : Nat) (E : f_E) (S : f_S) (encR : ρ0 → Option Value) (post : ρ0 → f_Mem → Prop) (G : f_G) : Prop := ∀ (pc : Nat) (L : f_L) (st : List Value) (σ : f_Mem) (x : Int64), (decode cc pc = .ok (.l2i, 1)) → G (pc + 1) L (.int x.toInt32 :: st) σ → G pc L (.long x :: st) σ
def r_lcmp {ρ0 : Type} (cc : ByteArray) (own : String) (ret : Option FieldType) (D : Nat) (E : f_E) (S : f_S) (encR : ρ0 → Option Value) (post : ρ0 → f_Mem → Prop) (G : f_G) : Prop := ∀ (pc : Nat) (L : f_L) (st : List Value) (σ : f_Mem) (x y : Int64), (decode cc pc = .ok (.lcmp, 1)) → G (pc + 1) L (.int (lg_cmp x y) :: st) σ → G pc L (.long y :: .long x :: st) σ
def r_iconst {ρ0 : Type} (cc : ByteArray) (own : String) (ret : Option FieldType) (D : Nat) (E : f_E) (S : f_S) (encR : ρ0 → Option Value) (post : ρ0 → f_Mem → Prop) (G : f_G) : Prop := ∀ (pc : Nat) (L : f_L) (st : List Value) (σ : f_Mem) (n : Int) (v : Int32), (decode cc pc = .ok ((.iconst n), 1)) → (Int32.ofInt n = v) → G (pc + 1) L (.int v :: st) σ → G pc L (st) σ
def r_bipush {ρ0 : Type} (cc : ByteArray) (own : String) (ret : Option FieldType) (D : Nat) (E : f_E) (S : f_S) (encR : ρ0 → Option Value) (post : ρ0 → f_Mem → Prop) (G : f_G) : Prop := ∀ (pc : Nat) (L : f_L) (st : List Value) (σ : f_Mem) (n : Int) (v : Int32), (decode cc pc = .ok ((.bipush n), 2)) → ((Int8.ofInt n).toInt32 = v) → G (pc + 2) L (.int v :: st) σ → G pc L (st) σ
def r_sipush {ρ0 : Type} (cc : ByteArray) (own : String) (ret : Option FieldType) (D : Nat) (E : f_E) (S : f_S) (encR : ρ0 → Option Value) (post : ρ0 → f_Mem → Prop) (G : f_G) : Prop := ∀ (pc : Nat) (L : f_L) (st : List Value) (σ : f_Mem) (n : Int) (v : Int32), (decode cc pc = .ok ((.sipush n), 3)) → ((Int16.ofInt n).toInt32 = v) → G (pc + 3) L (.int v :: st) σ → G pc L (st) σ
def r_lconst {ρ0 : Type} (cc : ByteArray) (own : String) (ret : Option FieldType) (D : Nat) (E : f_E) (S : f_S) (encR : ρ0 → Option Value) (post : ρ0 → f_Mem → Prop) (G : f_G) : Prop := ∀ (pc : Nat) (L : f_L) (st : List Value) (σ : f_Mem) (n : Fin 2) (v : Int64), (decode cc pc = .ok ((.lconst n), 1)) → (Int64.ofNat (n : Nat) = v) → G (pc + 1) L (.long v :: st) σ → G pc L (st) σ
def r_ldc {ρ0 : Type} (cc : ByteArray) (own : String) (ret : Option FieldType) (D : Nat) (E : f_E) (S : f_S) (encR : ρ0 → Option Value) (post : ρ0 → f_Mem → Prop) (G : f_G) : Prop := ∀ (pc : Nat) (L : f_L) (st : List Value) (σ : f_Mem) (i : Nat) (v : Int32), (decode cc pc = .ok ((.ldc i), 2)) → (Cond.constant own i v ∈ tb) → G (pc + 2) L (.int v :: st) σ → G pc L (st) σ
def r_ldcw {ρ0 : Type} (cc : ByteArray) (own : String) (ret : Option FieldType) (D : Nat) (E : f_E) (S : f_S) (encR : ρ0 → Option Value) (post : ρ0 → f_Mem → Prop) (G : f_G) : Prop := ∀ (pc : Nat) (L : f_L) (st : List Value) (σ : f_Mem) (i : Nat) (v : Int32), (decode cc pc = .ok ((.ldc_w i), 3)) → (Cond.constant own i v ∈ tb) → G (pc + 3) L (.int v :: st) σ → G pc L (st) σ
def r_ldc2 {ρ0 : Type} (cc : ByteArray) (own : String) (ret : Option FieldType) (D : Nat) (E : f_E) (S : f_S) (encR : ρ0 → Option Value) (post : ρ0 → f_Mem → Prop) (G : f_G) : Prop := ∀ (pc : Nat) (L : f_L) (st : List Value) (σ : f_Mem) (i : Nat) (v : Int64), (decode cc pc = .ok ((.ldc2_w i), 3)) → (Cond.constantLong own i v ∈ tb) → G (pc + 3) L (.long v :: st) σ → G pc L (st) σ
def r_null {ρ0 : Type} (cc : ByteArray) (own : String) (ret : Option FieldType) (D : Nat) (E : f_E) (S : f_S) (encR : ρ0 → Option Value) (post : ρ0 → f_Mem → Prop) (G : f_G) : Prop := ∀ (pc : Nat) (L : f_L) (st : List Value) (σ : f_Mem), (decode cc pc = .ok (.aconst_null, 1)) → G (pc + 1) L (.null :: st) σ → G pc L (st) σ
def r_dup {ρ0 : Type} (cc : ByteArray) (own : String) (ret : Option FieldType) (D : Nat) (E : f_E) (S : f_S) (encR : ρ0 → Option Value) (post : ρ0 → f_Mem → Prop) (G : f_G) : Prop := ∀ (pc : Nat) (L : f_L) (st : List Value) (σ : f_Mem) (v : Value), (decode cc pc = .ok (.dup, 1)) → (v.category = 1) → G (pc + 1) L (v :: v :: st) σ → G pc L (v :: st) σ
def r_dup2 {ρ0 : Type} (cc : ByteArray) (own : String) (ret : Option FieldType) (D : Nat) (E : f_E) (S : f_S) (encR : ρ0 → Option Value) (post : ρ0 → f_Mem → Prop) (G : f_G) : Prop := ∀ (pc : Nat) (L : f_L) (st : List Value) (σ : f_Mem) (v w : Value), (decode cc pc = .ok (.dup2, 1)) → (v.category = 1) → (w.category = 1) → G (pc + 1) L (v :: w :: v :: w :: st) σ → G pc L (v :: w :: st) σ
def r_pop {ρ0 : Type} (cc : ByteArray) (own : String) (ret : Option FieldType) (D : Nat) (E : f_E) (S : f_S) (encR : ρ0 → Option Value) (post : ρ0 → f_Mem → Prop) (G : f_G) : Prop := ∀ (pc : Nat) (L : f_L) (st : List Value) (σ : f_Mem) (v : Value), (decode cc pc = .ok (.pop, 1)) → (v.category = 1) → G (pc + 1) L (st) σ → G pc L (v :: st) σ
def r_icmp_eq {ρ0 : Type} (cc : ByteArray) (own : String) (ret : Option FieldType) (D : Nat) (E : f_E) (S : f_S) (encR : ρ0 → Option Value) (post : ρ0 → f_Mem → Prop) (G : f_G) : Prop := ∀ (pc : Nat) (L : f_L) (st : List Value) (σ : f_Mem) (off : Int) (tgt : Nat) (x y : Int32), (decode cc pc = .ok (.if_icmp .eq off, 3)) → ((pc : Int) + off = (tgt : Int)) → (x = y → G tgt L st σ) → (¬ x = y → G (pc + 3) L st σ) → G pc L (.int y :: .int x :: st) σ
def r_icmp_ne {ρ0 : Type} (cc : ByteArray) (own : String) (ret : Option FieldType) (D : Nat) (E : f_E) (S : f_S) (encR : ρ0 → Option Value) (post : ρ0 → f_Mem → Prop) (G : f_G) : Prop := ∀ (pc : Nat) (L : f_L) (st : List Value) (σ : f_Mem) (off : Int) (tgt : Nat) (x y : Int32), (decode cc pc = .ok (.if_icmp .ne off, 3)) → ((pc : Int) + off = (tgt : Int)) → (x ≠ y → G tgt L st σ) → (x = y → G (pc + 3) L st σ) → G pc L (.int y :: .int x :: st) σ
def r_icmp_lt {ρ0 : Type} (cc : ByteArray) (own : String) (ret : Option FieldType) (D : Nat) (E : f_E) (S : f_S) (encR : ρ0 → Option Value) (post : ρ0 → f_Mem → Prop) (G : f_G) : Prop := ∀ (pc : Nat) (L : f_L) (st : List Value) (σ : f_Mem) (off : Int) (tgt : Nat) (x y : Int32), (decode cc pc = .ok (.if_icmp .lt off, 3)) → ((pc : Int) + off = (tgt : Int)) → (x < y → G tgt L st σ) → (¬ x < y → G (pc + 3) L st σ) → G pc L (.int y :: .int x :: st) σ
def r_icmp_ge {ρ0 : Type} (cc : ByteArray) (own : String) (ret : Option FieldType) (D : Nat) (E : f_E) (S : f_S) (encR : ρ0 → Option Value) (post : ρ0 → f_Mem → Prop) (G : f_G) : Prop := ∀ (pc : Nat) (L : f_L) (st : List Value) (σ : f_Mem) (off : Int) (tgt : Nat) (x y : Int32), (decode cc pc = .ok (.if_icmp .ge off, 3)) → ((pc : Int) + off = (tgt : Int)) → (y ≤ x → G tgt L st σ) → (¬ y ≤ x → G (pc + 3) L st σ) → G pc L (.int y :: .int x :: st) σ
def r_icmp_gt {ρ0 : Type} (cc : ByteArray) (own : String) (ret : Option FieldType) (D : Nat) (E : f_E) (S : f_S) (encR : ρ0 → Option Value) (post : ρ0 → f_Mem → Prop) (G : f_G) : Prop := ∀ (pc : Nat) (L : f_L) (st : List Value) (σ : f_Mem) (off : Int) (tgt : Nat) (x y : Int32), (decode cc pc = .ok (.if_icmp .gt off, 3)) → ((pc : Int) + off = (tgt : Int)) → (y < x → G tgt L st σ) → (¬ y < x → G (pc + 3) L st σ) → G pc L (.int y :: .int x :: st) σ
def r_icmp_le {ρ0 : Type} (cc : ByteArray) (own : String) (ret : Option FieldType) (D : Nat) (E : f_E) (S : f_S) (encR : ρ0 → Option Value) (post : ρ0 → f_Mem → Prop) (G : f_G) : Prop := ∀ (pc : Nat) (L : f_L) (st : List Value) (σ : f_Mem) (off : Int) (tgt : Nat) (x y : Int32), (decode cc pc = .ok (.if_icmp .le off, 3)) → ((pc : Int) + off = (tgt : Int)) → (x ≤ y → G tgt L st σ) → (¬ x ≤ y → G (pc + 3) L st σ) → G pc L (.int y :: .int x :: st) σ
def r_if_eq {ρ0 : Type} (cc : ByteArray) (own : String) (ret : Option FieldType) (D : Nat) (E : f_E) (S : f_S) (encR : ρ0 → Option Value) (post : ρ0 → f_Mem → Prop) (G : f_G) : Prop := ∀ (pc : Nat) (L : f_L) (st : List Value) (σ : f_Mem) (off : Int) (tgt : Nat) (x : Int32), (decode cc pc = .ok (.ifCond .eq off, 3)) → ((pc : Int) + off = (tgt : Int)) → (x = 0 → G tgt L st σ) → (¬ x = 0 → G (pc + 3) L st σ) → G pc L (.int x :: st) σ
def r_if_ne {ρ0 : Type} (cc : ByteArray) (own : String) (ret : Option FieldType) (D : Nat) (E : f_E) (S : f_S) (encR : ρ0 → Option Value) (post : ρ0 → f_Mem → Prop) (G : f_G) : Prop := ∀ (pc : Nat) (L : f_L) (st : List Value) (σ : f_Mem) (off : Int) (tgt : Nat) (x : Int32), (decode cc pc = .ok (.ifCond .ne off, 3)) → ((pc : Int) + off = (tgt : Int)) → (x ≠ 0 → G tgt L st σ) → (x = 0 → G (pc + 3) L st σ) → G pc L (.int x :: st) σ
def r_if_lt {ρ0 : Type} (cc : ByteArray) (own : String) (ret : Option FieldType) (D : Nat) (E : f_E) (S : f_S) (encR : ρ0 → Option Value) (post : ρ0 → f_Mem → Prop) (G : f_G) : Prop := ∀ (pc : Nat) (L : f_L) (st : List Value) (σ : f_Mem) (off : Int) (tgt : Nat) (x : Int32), (decode cc pc = .ok (.ifCond .lt off, 3)) → ((pc : Int) + off = (tgt : Int)) → (x < 0 → G tgt L st σ) → (¬ x < 0 → G (pc + 3) L st σ) → G pc L (.int x :: st) σ
def r_if_ge {ρ0 : Type} (cc : ByteArray) (own : String) (ret : Option FieldType) (D : Nat) (E : f_E) (S : f_S) (encR : ρ0 → Option Value) (post : ρ0 → f_Mem → Prop) (G : f_G) : Prop := ∀ (pc : Nat) (L : f_L) (st : List Value) (σ : f_Mem) (off : Int) (tgt : Nat) (x : Int32), (decode cc pc = .ok (.ifCond .ge off, 3)) → ((pc : Int) + off = (tgt : Int)) → (0 ≤ x → G tgt L st σ) → (¬ 0 ≤ x → G (pc + 3) L st σ) → G pc L (.int x :: st) σ
def r_if_gt {ρ0 : Type} (cc : ByteArray) (own : String) (ret : Option FieldType) (D : Nat) (E : f_E) (S : f_S) (encR : ρ0 → Option Value) (post : ρ0 → f_Mem → Prop) (G : f_G) : Prop := ∀ (pc : Nat) (L : f_L) (st : List Value) (σ : f_Mem) (off : Int) (tgt : Nat) (x : Int32), (decode cc pc = .ok (.ifCond .gt off, 3)) → ((pc : Int) + off = (tgt : Int)) → (0 < x → G tgt L st σ) → (¬ 0 < x → G (pc + 3) L st σ) → G pc L (.int x :: st) σ
def r_if_le {ρ0 : Type} (cc : ByteArray) (own : String) (ret : Option FieldType) (D : Nat) (E : f_E) (S : f_S) (encR : ρ0 → Option Value) (post : ρ0 → f_Mem → Prop) (G : f_G) : Prop := ∀ (pc : Nat) (L : f_L) (st : List Value) (σ : f_Mem) (off : Int) (tgt : Nat) (x : Int32), (decode cc pc = .ok (.ifCond .le off, 3)) → ((pc : Int) + off = (tgt : Int)) → (x ≤ 0 → G tgt L st σ) → (¬ x ≤ 0 → G (pc + 3) L st σ) → G pc L (.int x :: st) σ
def r_goto {ρ0 : Type} (cc : ByteArray) (own : String) (ret : Option FieldType) (D : Nat) (E : f_E) (S : f_S) (encR : ρ0 → Option Value) (post : ρ0 → f_Mem → Prop) (G : f_G) : Prop := ∀ (pc : Nat) (L : f_L) (st : List Value) (σ : f_Mem) (off : Int) (tgt : Nat), (decode cc pc = .ok (.goto off, 3)) → ((pc : Int) + off = (tgt : Int)) → G tgt L st σ → G pc L st σ
def r_ifnull {ρ0 : Type} (cc : ByteArray) (own : String) (ret : Option FieldType) (D : Nat) (E : f_E) (S : f_S) (encR : ρ0 → Option Value) (post : ρ0 → f_Mem → Prop) (G : f_G) : Prop := ∀ (pc : Nat) (L : f_L) (st : List Value) (σ : f_Mem) (off : Int) (x : Nat), (decode cc pc = .ok (.ifnull off, 3)) → G (pc + 3) L st σ → G pc L (.ref x :: st) σ
def r_ifnullN {ρ0 : Type} (cc : ByteArray) (own : String) (ret : Option FieldType) (D : Nat) (E : f_E) (S : f_S) (encR : ρ0 → Option Value) (post : ρ0 → f_Mem → Prop) (G : f_G) : Prop := ∀ (pc : Nat) (L : f_L) (st : List Value) (σ : f_Mem) (off : Int) (tgt : Nat), (decode cc pc = .ok (.ifnull off, 3)) → ((pc : Int) + off = (tgt : Int)) → G tgt L st σ → G pc L (.null :: st) σ
def r_ifnonnull {ρ0 : Type} (cc : ByteArray) (own : String) (ret : Option FieldType) (D : Nat) (E : f_E) (S : f_S) (encR : ρ0 → Option Value) (post : ρ0 → f_Mem → Prop) (G : f_G) : Prop := ∀ (pc : Nat) (L : f_L) (st : List Value) (σ : f_Mem) (off : Int) (tgt : Nat) (x : Nat), (decode cc pc = .ok (.ifnonnull off, 3)) → ((pc : Int) + off = (tgt : Int)) → G tgt L st σ → G pc L (.ref x :: st) σ
def r_ifnonnullN {ρ0 : Type} (cc : ByteArray) (own : String) (ret : Option FieldType) (D : Nat) (E : f_E) (S : f_S) (encR : ρ0 → Option Value) (post : ρ0 → f_Mem → Prop) (G : f_G) : Prop := ∀ (pc : Nat) (L : f_L) (st : List Value) (σ : f_Mem) (off : Int), (decode cc pc = .ok (.ifnonnull off, 3)) → G (pc + 3) L st σ → G pc L (.null :: st) σ
def r_tblIn {ρ0 : Type} (cc : ByteArray) (own : String) (ret : Option FieldType) (D : Nat) (E : f_E) (S : f_S) (encR : ρ0 → Option Value) (post : ρ0 → f_Mem → Prop) (G : f_G) : Prop := ∀ (pc : Nat) (L : f_L) (st : List Value) (σ : f_Mem) (dflt lo hi : Int) (offs : Array Int) (len : Nat) (x : Int32) (off : Int) (tgt : Nat), (decode cc pc = .ok (.tableswitch dflt lo hi offs, len)) → (¬ x.toInt < lo) → (¬ hi < x.toInt) → (offs[(x.toInt - lo).toNat]? = some off) → ((pc : Int) + off = (tgt : Int)) → G tgt L st σ → G pc L (.int x :: st) σ
def r_tblOut {ρ0 : Type} (cc : ByteArray) (own : String) (ret : Option FieldType) (D : Nat) (E : f_E) (S : f_S) (encR : ρ0 → Option Value) (post : ρ0 → f_Mem → Prop) (G : f_G) : Prop := ∀ (pc : Nat) (L : f_L) (st : List Value) (σ : f_Mem) (dflt lo hi : Int) (offs : Array Int) (len : Nat) (x : Int32) (tgt : Nat), (decode cc pc = .ok (.tableswitch dflt lo hi offs, len)) → (x.toInt < lo ∨ hi < x.toInt) → ((pc : Int) + dflt = (tgt : Int)) → G tgt L st σ → G pc L (.int x :: st) σ
def r_iload_n {ρ0 : Type} (cc : ByteArray) (own : String) (ret : Option FieldType) (D : Nat) (E : f_E) (S : f_S) (encR : ρ0 → Option Value) (post : ρ0 → f_Mem → Prop) (G : f_G) : Prop := ∀ (pc : Nat) (L : f_L) (st : List Value) (σ : f_Mem) (k : Fin 4) (x : Int32), (decode cc pc = .ok (.iload_n k, 1)) → (L[(k : Nat)]? = some (some (.int x))) → G (pc + 1) L (.int x :: st) σ → G pc L st σ
def r_iload {ρ0 : Type} (cc : ByteArray) (own : String) (ret : Option FieldType) (D : Nat) (E : f_E) (S : f_S) (encR : ρ0 → Option Value) (post : ρ0 → f_Mem → Prop) (G : f_G) : Prop := ∀ (pc : Nat) (L : f_L) (st : List Value) (σ : f_Mem) (k : Nat) (x : Int32), (decode cc pc = .ok (.iload k, 2)) → (L[k]? = some (some (.int x))) → G (pc + 2) L (.int x :: st) σ → G pc L st σ
def r_aload_n {ρ0 : Type} (cc : ByteArray) (own : String) (ret : Option FieldType) (D : Nat) (E : f_E) (S : f_S) (encR : ρ0 → Option Value) (post : ρ0 → f_Mem → Prop) (G : f_G) : Prop := ∀ (pc : Nat) (L : f_L) (st : List Value) (σ : f_Mem) (k : Fin 4) (x : Nat), (decode cc pc = .ok (.aload_n k, 1)) → (L[(k : Nat)]? = some (some (.ref x))) → G (pc + 1) L (.ref x :: st) σ → G pc L st σ
def r_aload {ρ0 : Type} (cc : ByteArray) (own : String) (ret : Option FieldType) (D : Nat) (E : f_E) (S : f_S) (encR : ρ0 → Option Value) (post : ρ0 → f_Mem → Prop) (G : f_G) : Prop := ∀ (pc : Nat) (L : f_L) (st : List Value) (σ : f_Mem) (k : Nat) (x : Nat), (decode cc pc = .ok (.aload k, 2)) → (L[k]? = some (some (.ref x))) → G (pc + 2) L (.ref x :: st) σ → G pc L st σ
def r_aloadN_n {ρ0 : Type} (cc : ByteArray) (own : String) (ret : Option FieldType) (D : Nat) (E : f_E) (S : f_S) (encR : ρ0 → Option Value) (post : ρ0 → f_Mem → Prop) (G : f_G) : Prop := ∀ (pc : Nat) (L : f_L) (st : List Value) (σ : f_Mem) (k : Fin 4), (decode cc pc = .ok (.aload_n k, 1)) → (L[(k : Nat)]? = some (some (.null))) → G (pc + 1) L (.null :: st) σ → G pc L st σ
def r_aloadN {ρ0 : Type} (cc : ByteArray) (own : String) (ret : Option FieldType) (D : Nat) (E : f_E) (S : f_S) (encR : ρ0 → Option Value) (post : ρ0 → f_Mem → Prop) (G : f_G) : Prop := ∀ (pc : Nat) (L : f_L) (st : List Value) (σ : f_Mem) (k : Nat), (decode cc pc = .ok (.aload k, 2)) → (L[k]? = some (some (.null))) → G (pc + 2) L (.null :: st) σ → G pc L st σ
def r_lload_n {ρ0 : Type} (cc : ByteArray) (own : String) (ret : Option FieldType) (D : Nat) (E : f_E) (S : f_S) (encR : ρ0 → Option Value) (post : ρ0 → f_Mem → Prop) (G : f_G) : Prop := ∀ (pc : Nat) (L : f_L) (st : List Value) (σ : f_Mem) (k : Fin 4) (x : Int64), (decode cc pc = .ok (.lload_n k, 1)) → (L[(k : Nat)]? = some (some (.long x))) → G (pc + 1) L (.long x :: st) σ → G pc L st σ
def r_lload {ρ0 : Type} (cc : ByteArray) (own : String) (ret : Option FieldType) (D : Nat) (E : f_E) (S : f_S) (encR : ρ0 → Option Value) (post : ρ0 → f_Mem → Prop) (G : f_G) : Prop := ∀ (pc : Nat) (L : f_L) (st : List Value) (σ : f_Mem) (k : Nat) (x : Int64), (decode cc pc = .ok (.lload k, 2)) → (L[k]? = some (some (.long x))) → G (pc + 2) L (.long x :: st) σ → G pc L st σ
def r_istore_n {ρ0 : Type} (cc : ByteArray) (own : String) (ret : Option FieldType) (D : Nat) (E : f_E) (S : f_S) (encR : ρ0 → Option Value) (post : ρ0 → f_Mem → Prop) (G : f_G) : Prop := ∀ (pc : Nat) (L : f_L) (st : List Value) (σ : f_Mem) (k : Fin 4) (x : Int32), (decode cc pc = .ok (.istore_n k, 1)) → ((k : Nat) < L.length) → (f_nl L k = true) → G (pc + 1) (L.set k (some (.int x))) st σ → G pc L (.int x :: st) σ
def r_istore {ρ0 : Type} (cc : ByteArray) (own : String) (ret : Option FieldType) (D : Nat) (E : f_E) (S : f_S) (encR : ρ0 → Option Value) (post : ρ0 → f_Mem → Prop) (G : f_G) : Prop := ∀ (pc : Nat) (L : f_L) (st : List Value) (σ : f_Mem) (k : Nat) (x : Int32), (decode cc pc = .ok (.istore k, 2)) → (k < L.length) → (f_nl L k = true) → G (pc + 2) (L.set k (some (.int x))) st σ → G pc L (.int x :: st) σ
def r_astore_n {ρ0 : Type} (cc : ByteArray) (own : String) (ret : Option FieldType) (D : Nat) (E : f_E) (S : f_S) (encR : ρ0 → Option Value) (post : ρ0 → f_Mem → Prop) (G : f_G) : Prop := ∀ (pc : Nat) (L : f_L) (st : List Value) (σ : f_Mem) (k : Fin 4) (x : Nat), (decode cc pc = .ok (.astore_n k, 1)) → ((k : Nat) < L.length) → (f_nl L k = true) → G (pc + 1) (L.set k (some (.ref x))) st σ → G pc L (.ref x :: st) σ
def r_astore {ρ0 : Type} (cc : ByteArray) (own : String) (ret : Option FieldType) (D : Nat) (E : f_E) (S : f_S) (encR : ρ0 → Option Value) (post : ρ0 → f_Mem → Prop) (G : f_G) : Prop := ∀ (pc : Nat) (L : f_L) (st : List Value) (σ : f_Mem) (k : Nat) (x : Nat), (decode cc pc = .ok (.astore k, 2)) → (k < L.length) → (f_nl L k = true) → G (pc + 2) (L.set k (some (.ref x))) st σ → G pc L (.ref x :: st) σ
def r_astoreN_n {ρ0 : Type} (cc : ByteArray) (own : String) (ret : Option FieldType) (D : Nat) (E : f_E) (S : f_S) (encR : ρ0 → Option Value) (post : ρ0 → f_Mem → Prop) (G : f_G) : Prop := ∀ (pc : Nat) (L : f_L) (st : List Value) (σ : f_Mem) (k : Fin 4), (decode cc pc = .ok (.astore_n k, 1)) → ((k : Nat) < L.length) → (f_nl L k = true) → G (pc + 1) (L.set k (some (.null))) st σ → G pc L (.null :: st) σ
def r_astoreN {ρ0 : Type} (cc : ByteArray) (own : String) (ret : Option FieldType) (D : Nat) (E : f_E) (S : f_S) (encR : ρ0 → Option Value) (post : ρ0 → f_Mem → Prop) (G : f_G) : Prop := ∀ (pc : Nat) (L : f_L) (st : List Value) (σ : f_Mem) (k : Nat), (decode cc pc = .ok (.astore k, 2)) → (k < L.length) → (f_nl L k = true) → G (pc + 2) (L.set k (some (.null))) st σ → G pc L (.null :: st) σ
def r_lstore_n {ρ0 : Type} (cc : ByteArray) (own : String) (ret : Option FieldType) (D : Nat) (E : f_E) (S : f_S) (encR : ρ0 → Option Value) (post : ρ0 → f_Mem → Prop) (G : f_G) : Prop := ∀ (pc : Nat) (L : f_L) (st : List Value) (σ : f_Mem) (k : Fin 4) (x : Int64), (decode cc pc = .ok (.lstore_n k, 1)) → ((k : Nat) + 1 < L.length) → (f_nl L k = true) → G (pc + 1) ((L.set k (some (.long x))).set (k + 1) none) st σ → G pc L (.long x :: st) σ
def r_lstore {ρ0 : Type} (cc : ByteArray) (own : String) (ret : Option FieldType) (D : Nat) (E : f_E) (S : f_S) (encR : ρ0 → Option Value) (post : ρ0 → f_Mem → Prop) (G : f_G) : Prop := ∀ (pc : Nat) (L : f_L) (st : List Value) (σ : f_Mem) (k : Nat) (x : Int64), (decode cc pc = .ok (.lstore k, 2)) → (k + 1 < L.length) → (f_nl L k = true) → G (pc + 2) ((L.set k (some (.long x))).set (k + 1) none) st σ → G pc L (.long x :: st) σ
def r_iinc {ρ0 : Type} (cc : ByteArray) (own : String) (ret : Option FieldType) (D : Nat) (E : f_E) (S : f_S) (encR : ρ0 → Option Value) (post : ρ0 → f_Mem → Prop) (G : f_G) : Prop := ∀ (pc : Nat) (L : f_L) (st : List Value) (σ : f_Mem) (k : Nat) (n : Int) (x v : Int32), (decode cc pc = .ok (.iinc k n, 3)) → (L[k]? = some (some (.int x))) → (x + Int32.ofInt n = v) → (f_nl L k = true) → G (pc + 3) (L.set k (some (.int v))) st σ → G pc L st σ
def r_getI {ρ0 : Type} (cc : ByteArray) (own : String) (ret : Option FieldType) (D : Nat) (E : f_E) (S : f_S) (encR : ρ0 → Option Value) (post : ρ0 → f_Mem → Prop) (G : f_G) : Prop := ∀ (pc : Nat) (L : f_L) (st : List Value) (σ : f_Mem) (i ci k n : Nat) (fs : List (Option (Option Nat))), (decode cc pc = .ok (.getfield i, 3)) → (f_FL own i ci k) → (n < S.1) → (S.2 n = .inl (ci, fs)) → (fs[k]? = some none) → G (pc + 3) L (.int (σ n k) :: st) σ → G pc L (.ref (f_ad E n) :: st) σ
def r_getR {ρ0 : Type} (cc : ByteArray) (own : String) (ret : Option FieldType) (D : Nat) (E : f_E) (S : f_S) (encR : ρ0 → Option Value) (post : ρ0 → f_Mem → Prop) (G : f_G) : Prop := ∀ (pc : Nat) (L : f_L) (st : List Value) (σ : f_Mem) (i ci k n r : Nat) (fs : List (Option (Option Nat))), (decode cc pc = .ok (.getfield i, 3)) → (f_FL own i ci k) → (n < S.1) → (S.2 n = .inl (ci, fs)) → (fs[k]? = some (some (some r))) → G (pc + 3) L (.ref (f_ad E r) :: st) σ → G pc L (.ref (f_ad E n) :: st) σ
def r_getN {ρ0 : Type} (cc : ByteArray) (own : String) (ret : Option FieldType) (D : Nat) (E : f_E) (S : f_S) (encR : ρ0 → Option Value) (post : ρ0 → f_Mem → Prop) (G : f_G) : Prop := ∀ (pc : Nat) (L : f_L) (st : List Value) (σ : f_Mem) (i ci k n : Nat) (fs : List (Option (Option Nat))), (decode cc pc = .ok (.getfield i, 3)) → (f_FL own i ci k) → (n < S.1) → (S.2 n = .inl (ci, fs)) → (fs[k]? = some (some none)) → G (pc + 3) L (.null :: st) σ → G pc L (.ref (f_ad E n) :: st) σ
def r_put {ρ0 : Type} (cc : ByteArray) (own : String) (ret : Option FieldType) (D : Nat) (E : f_E) (S : f_S) (encR : ρ0 → Option Value) (post : ρ0 → f_Mem → Prop) (G : f_G) : Prop := ∀ (pc : Nat) (L : f_L) (st : List Value) (σ : f_Mem) (i ci k n : Nat) (fs : List (Option (Option Nat))) (v : Int32), (decode cc pc = .ok (.putfield i, 3)) → (f_FP own i ci k) → (n < S.1) → (S.2 n = .inl (ci, fs)) → (fs[k]? = some none) → G (pc + 3) L st (m_set σ n k v) → G pc L (.int v :: .ref (f_ad E n) :: st) σ
def r_ald {ρ0 : Type} (cc : ByteArray) (own : String) (ret : Option FieldType) (D : Nat) (E : f_E) (S : f_S) (encR : ρ0 → Option Value) (post : ρ0 → f_Mem → Prop) (G : f_G) : Prop := ∀ (pc : Nat) (L : f_L) (st : List Value) (σ : f_Mem) (n len : Nat) (i : Int32), (decode cc pc = .ok (.iaload, 1)) → (n < S.1) → (S.2 n = .inr (.inl len)) → (vp_in i len) → G (pc + 1) L (.int (σ n i.toNatClampNeg) :: st) σ → G pc L (.int i :: .ref (f_ad E n) :: st) σ
def r_ast {ρ0 : Type} (cc : ByteArray) (own : String) (ret : Option FieldType) (D : Nat) (E : f_E) (S : f_S) (encR : ρ0 → Option Value) (post : ρ0 → f_Mem → Prop) (G : f_G) : Prop := ∀ (pc : Nat) (L : f_L) (st : List Value) (σ : f_Mem) (n len : Nat) (i v : Int32), (decode cc pc = .ok (.iastore, 1)) → (n < S.1) → (S.2 n = .inr (.inl len)) → (vp_in i len) → G (pc + 1) L st (m_set σ n i.toNatClampNeg v) → G pc L (.int v :: .int i :: .ref (f_ad E n) :: st) σ
def r_alenI {ρ0 : Type} (cc : ByteArray) (own : String) (ret : Option FieldType) (D : Nat) (E : f_E) (S : f_S) (encR : ρ0 → Option Value) (post : ρ0 → f_Mem → Prop) (G : f_G) : Prop := ∀ (pc : Nat) (L : f_L) (st : List Value) (σ : f_Mem) (n len : Nat), (decode cc pc = .ok (.arraylength, 1)) → (n < S.1) → (S.2 n = .inr (.inl len)) → G (pc + 1) L (.int (Int32.ofNat len) :: st) σ → G pc L (.ref (f_ad E n) :: st) σ
def r_alenQ {ρ0 : Type} (cc : ByteArray) (own : String) (ret : Option FieldType) (D : Nat) (E : f_E) (S : f_S) (encR : ρ0 → Option Value) (post : ρ0 → f_Mem → Prop) (G : f_G) : Prop := ∀ (pc : Nat) (L : f_L) (st : List Value) (σ : f_Mem) (n len : Nat), (decode cc pc = .ok (.arraylength, 1)) → (n < S.1) → (S.2 n = .inr (.inr len)) → G (pc + 1) L (.int (Int32.ofNat len) :: st) σ → G pc L (.ref (f_ad E n) :: st) σ
def r_aldQ {ρ0 : Type} (cc : ByteArray) (own : String) (ret : Option FieldType) (D : Nat) (E : f_E) (S : f_S) (encR : ρ0 → Option Value) (post : ρ0 → f_Mem → Prop) (G : f_G) : Prop := ∀ (pc : Nat) (L : f_L) (st : List Value) (σ : f_Mem) (n len : Nat) (i : Int32), (decode cc pc = .ok (.aaload, 1)) → (n < S.1) → (S.2 n = .inr (.inr len)) → (vp_in i len) → G (pc + 1) L (.ref (f_ad E (σ n i.toNatClampNeg).toNatClampNeg) :: st) σ → G pc L (.int i :: .ref (f_ad E n) :: st) σ
def r_astQ {ρ0 : Type} (cc : ByteArray) (own : String) (ret : Option FieldType) (D : Nat) (E : f_E) (S : f_S) (encR : ρ0 → Option Value) (post : ρ0 → f_Mem → Prop) (G : f_G) : Prop := ∀ (pc : Nat) (L : f_L) (st : List Value) (σ : f_Mem) (n len r : Nat) (fs : List (Option (Option Nat))) (i : Int32), (decode cc pc = .ok (.aastore, 1)) → (n < S.1) → (S.2 n = .inr (.inr len)) → (vp_in i len) → (r < S.1) → (S.2 r = .inl (2, fs)) → (r < 2147483648) → G (pc + 1) L st (m_set σ n i.toNatClampNeg (Int32.ofNat r)) → G pc L (.ref (f_ad E r) :: .int i :: .ref (f_ad E n) :: st) σ
def r_max {ρ0 : Type} (cc : ByteArray) (own : String) (ret : Option FieldType) (D : Nat) (E : f_E) (S : f_S) (encR : ρ0 → Option Value) (post : ρ0 → f_Mem → Prop) (G : f_G) : Prop := ∀ (pc : Nat) (L : f_L) (st : List Value) (σ : f_Mem) (i : Nat) (x y : Int32), (decode cc pc = .ok (.invokestatic i, 3)) → (Cond.methodLink own i Lib.Math.max.name ∈ tb) → (1 ≤ D) → ((st.map fun v => v.category).sum ≤ 8) → G (pc + 3) L (.int (if x < y then y else x) :: st) σ → G pc L (.int y :: .int x :: st) σ
def r_min {ρ0 : Type} (cc : ByteArray) (own : String) (ret : Option FieldType) (D : Nat) (E : f_E) (S : f_S) (encR : ρ0 → Option Value) (post : ρ0 → f_Mem → Prop) (G : f_G) : Prop := ∀ (pc : Nat) (L : f_L) (st : List Value) (σ : f_Mem) (i : Nat) (x y : Int32), (decode cc pc = .ok (.invokestatic i, 3)) → (Cond.methodLink own i Lib.Math.min.name ∈ tb) → (1 ≤ D) → ((st.map fun v => v.category).sum ≤ 8) → G (pc + 3) L (.int (if y < x then y else x) :: st) σ → G pc L (.int y :: .int x :: st) σ
def r_copy {ρ0 : Type} (cc : ByteArray) (own : String) (ret : Option FieldType) (D : Nat) (E : f_E) (S : f_S) (encR : ρ0 → Option Value) (post : ρ0 → f_Mem → Prop) (G : f_G) : Prop := ∀ (pc : Nat) (L : f_L) (st : List Value) (σ : f_Mem) (i n0 n1 l0 l1 : Nat) (sp dp n : Int32), (decode cc pc = .ok (.invokestatic i, 3)) → (Cond.methodLink own i arraycopyName ∈ tb) → (1 ≤ D) → ((st.map fun v => v.category).sum ≤ 8) → (n0 < S.1) → (n1 < S.1) → (S.2 n0 = .inr (.inl l0)) → (S.2 n1 = .inr (.inl l1)) → (¬ sp < 0) → (¬ dp < 0) → (¬ n < 0) → (sp.toNatClampNeg + n.toNatClampNeg ≤ l0) → (dp.toNatClampNeg + n.toNatClampNeg ≤ l1) → G (pc + 3) L st (m_row σ n1 (va_cpy (σ n0) (σ n1) sp.toNatClampNeg dp.toNatClampNeg n.toNatClampNeg)) → G pc L (.int n :: .int dp :: .ref (f_ad E n1) :: .int sp :: .ref (f_ad E n0) :: st) σ
def r_callV {ρ0 : Type} (cc : ByteArray) (own : String) (ret : Option FieldType) (D : Nat) (E : f_E) (S : f_S) (encR : ρ0 → Option Value) (post : ρ0 → f_Mem → Prop) (G : f_G) : Prop := ∀ (ρ : Type) (pc : Nat) (L : f_L) (rest As : List Value) (σ : f_Mem) (i ci n d : Nat) (fs : List (Option (Option Nat))) (Y : f_Y) (enc : ρ → Option Value) (post2 : ρ → f_Mem → Prop), (decode cc pc = .ok (.invokevirtual i, 3)) → (f_LV own i Y As.length) → (n < S.1) → (S.2 n = .inl (ci, fs)) → ((vwCl[ci]?).map (fun q => q.1) = some Y.1.cls) → (FM E S Y d (.ref (f_ad E n) :: As) σ enc post2) → (d + 1 ≤ D) → ((rest.map fun v => v.category).sum ≤ 8) → (∀ (r : ρ) (u : f_Mem), post2 r u → G (pc + 3) L ((enc r).toList ++ rest) u) → G pc L (As.reverse ++ .ref (f_ad E n) :: rest) σ
def r_callS {ρ0 : Type} (cc : ByteArray) (own : String) (ret : Option FieldType) (D : Nat) (E : f_E) (S : f_S) (encR : ρ0 → Option Value) (post : ρ0 → f_Mem → Prop) (G : f_G) : Prop := ∀ (ρ : Type) (pc : Nat) (L : f_L) (rest As : List Value) (σ : f_Mem) (i d : Nat) (Y : f_Y) (enc : ρ → Option Value) (post2 : ρ → f_Mem → Prop), (decode cc pc = .ok (.invokestatic i, 3)) → (f_LS own i Y As.length) → (FM E S Y d As σ enc post2) → (d + 1 ≤ D) → ((rest.map fun v => v.category).sum ≤ 8) → (∀ (r : ρ) (u : f_Mem), post2 r u → G (pc + 3) L ((enc r).toList ++ rest) u) → G pc L (As.reverse ++ rest) σ
def r_iret {ρ0 : Type} (cc : ByteArray) (own : String) (ret : Option FieldType) (D : Nat) (E : f_E) (S : f_S) (encR : ρ0 → Option Value) (post : ρ0 → f_Mem → Prop) (G : f_G) : Prop := ∀ (pc : Nat) (L : f_L) (σ : f_Mem) (v : Int32) (ty : FieldType), (decode cc pc = .ok (.ireturn, 1)) → (ret = some ty) → (narrow ty (.int v) = .int v) → (∃ r, encR r = some (.int v) ∧ post r σ) → G pc L [.int v] σ
def r_vret {ρ0 : Type} (cc : ByteArray) (own : String) (ret : Option FieldType) (D : Nat) (E : f_E) (S : f_S) (encR : ρ0 → Option Value) (post : ρ0 → f_Mem → Prop) (G : f_G) : Prop := ∀ (pc : Nat) (L : f_L) (σ : f_Mem), (decode cc pc = .ok (.return_, 1)) → (ret = none) → (∃ r, encR r = none ∧ post r σ) → G pc L [] σ
def r_lret {ρ0 : Type} (cc : ByteArray) (own : String) (ret : Option FieldType) (D : Nat) (E : f_E) (S : f_S) (encR : ρ0 → Option Value) (post : ρ0 → f_Mem → Prop) (G : f_G) : Prop := ∀ (pc : Nat) (L : f_L) (σ : f_Mem) (v : Int64), (decode cc pc = .ok (.lreturn, 1)) → (ret = some .long) → (∃ r, encR r = some (.long v) ∧ post r σ) → G pc L [.long v] σ
def r_aret {ρ0 : Type} (cc : ByteArray) (own : String) (ret : Option FieldType) (D : Nat) (E : f_E) (S : f_S) (encR : ρ0 → Option Value) (post : ρ0 → f_Mem → Prop) (G : f_G) : Prop := ∀ (pc : Nat) (L : f_L) (σ : f_Mem) (v : Value) (cn : String), (decode cc pc = .ok (.areturn, 1)) → (ret = some (.object cn)) → (v = .null ∨ ∃ a, v = .ref a) → (∃ r, encR r = some v ∧ post r σ) → G pc L [v] σ
def Rul {ρ0 : Type} (cc : ByteArray) (own : String) (ret : Option FieldType) (D : Nat) (E : f_E) (S : f_S) (encR : ρ0 → Option Value) (post : ρ0 → f_Mem → Prop) (G : f_G) : Prop := r_iadd cc own ret D E S encR post G ∧ r_isub cc own ret D E S encR post G ∧ r_imul cc own ret D E S encR post G ∧ r_idiv cc own ret D E S encR post G ∧ r_irem cc own ret D E S encR post G ∧ r_iand cc own ret D E S encR post G ∧ r_ior cc own ret D E S encR post G ∧ r_ixor cc own ret D E S encR post G ∧ r_ishl cc own ret D E S encR post G ∧ r_ishr cc own ret D E S encR post G ∧ r_iushr cc own ret D E S encR post G ∧ r_ladd cc own ret D E S encR post G ∧ r_lmul cc own ret D E S encR post G ∧ r_ldiv cc own ret D E S encR post G ∧ r_lrem cc own ret D E S encR post G ∧ r_i2l cc own ret D E S encR post G ∧ r_l2i cc own ret D E S encR post G ∧ r_lcmp cc own ret D E S encR post G ∧ r_iconst cc own ret D E S encR post G ∧ r_bipush cc own ret D E S encR post G ∧ r_sipush cc own ret D E S encR post G ∧ r_lconst cc own ret D E S encR post G ∧ r_ldc cc own ret D E S encR post G ∧ r_ldcw cc own ret D E S encR post G ∧ r_ldc2 cc own ret D E S encR post G ∧ r_null cc own ret D E S encR post G ∧ r_dup cc own ret D E S encR post G ∧ r_dup2 cc own ret D E S encR post G ∧ r_pop cc own ret D E S encR post G ∧ r_icmp_eq cc own ret D E S encR post G ∧ r_icmp_ne cc own ret D E S encR post G ∧ r_icmp_lt cc own ret D E S encR post G ∧ r_icmp_ge cc own ret D E S encR post G ∧ r_icmp_gt cc own ret D E S encR post G ∧ r_icmp_le cc own ret D E S encR post G ∧ r_if_eq cc own ret D E S encR post G ∧ r_if_ne cc own ret D E S encR post G ∧ r_if_lt cc own ret D E S encR post G ∧ r_if_ge cc own ret D E S encR post G ∧ r_if_gt cc own ret D E S encR post G ∧ r_if_le cc own ret D E S encR post G ∧ r_goto cc own ret D E S encR post G ∧ r_ifnull cc own ret D E S encR post G ∧ r_ifnullN cc own ret D E S encR post G ∧ r_ifnonnull cc own ret D E S encR post G ∧ r_ifnonnullN cc own ret D E S encR post G ∧ r_tblIn cc own ret D E S encR post G ∧ r_tblOut cc own ret D E S encR post G ∧ r_iload_n cc own ret D E S encR post G ∧ r_iload cc own ret D E S encR post G ∧ r_aload_n cc own ret D E S encR post G ∧ r_aload cc own ret D E S encR post G ∧ r_aloadN_n cc own ret D E S encR post G ∧ r_aloadN cc own ret D E S encR post G ∧ r_lload_n cc own ret D E S encR post G ∧ r_lload cc own ret D E S encR post G ∧ r_istore_n cc own ret D E S encR post G ∧ r_istore cc own ret D E S encR post G ∧ r_astore_n cc own ret D E S encR post G ∧ r_astore cc own ret D E S encR post G ∧ r_astoreN_n cc own ret D E S encR post G ∧ r_astoreN cc own ret D E S encR post G ∧ r_lstore_n cc own ret D E S encR post G ∧ r_lstore cc own ret D E S encR post G ∧ r_iinc cc own ret D E S encR post G ∧ r_getI cc own ret D E S encR post G ∧ r_getR cc own ret D E S encR post G ∧ r_getN cc own ret D E S encR post G ∧ r_put cc own ret D E S encR post G ∧ r_ald cc own ret D E S encR post G ∧ r_ast cc own ret D E S encR post G ∧ r_alenI cc own ret D E S encR post G ∧ r_alenQ cc own ret D E S encR post G ∧ r_aldQ cc own ret D E S encR post G ∧ r_astQ cc own ret D E S encR post G ∧ r_max cc own ret D E S encR post G ∧ r_min cc own ret D E S encR post G ∧ r_copy cc own ret D E S encR post G ∧ r_callV cc own ret D E S encR post G ∧ r_callS cc own ret D E S encR post G ∧ r_iret cc own ret D E S encR post G ∧ r_vret cc own ret D E S encR post G ∧ r_lret cc own ret D E S encR post G ∧ r_aret cc own ret D E S encR post G
theorem k_iadd {ρ0 : Type} {cc : ByteArray} {own : String} {ret : Option FieldType} {D : Nat} {E : f_E} {S : f_S} {encR : ρ0 → Option Value} {post : ρ0 → f_Mem → Prop} {G : f_G} (hR : Rul cc own ret D E S encR post G) : r_iadd cc own ret D E S encR post G := hR.1
theorem k_isub {ρ0 : Type} {cc : ByteArray} {own : String} {ret : Option FieldType} {D : Nat} {E : f_E} {S : f_S} {encR : ρ0 → Option Value} {post : ρ0 → f_Mem → Prop} {G : f_G} (hR : Rul cc own ret D E S encR post G) : r_isub cc own ret D E S encR post G := hR.2.1
theorem k_imul {ρ0 : Type} {cc : ByteArray} {own : String} {ret : Option FieldType} {D : Nat} {E : f_E} {S : f_S} {encR : ρ0 → Option Value} {post : ρ0 → f_Mem → Prop} {G : f_G} (hR : Rul cc own ret D E S encR post G) : r_imul cc own ret D E S encR post G := hR.2.2.1
theorem k_idiv {ρ0 : Type} {cc : ByteArray} {own : String} {ret : Option FieldType} {D : Nat} {E : f_E} {S : f_S} {encR : ρ0 → Option Value} {post : ρ0 → f_Mem → Prop} {G : f_G} (hR : Rul cc own ret D E S encR post G) : r_idiv cc own ret D E S encR post G := hR.2.2.2.1
theorem k_irem {ρ0 : Type} {cc : ByteArray} {own : String} {ret : Option FieldType} {D : Nat} {E : f_E} {S : f_S} {encR : ρ0 → Option Value} {post : ρ0 → f_Mem → Prop} {G : f_G} (hR : Rul cc own ret D E S encR post G) : r_irem cc own ret D E S encR post G := hR.2.2.2.2.1
theorem k_iand {ρ0 : Type} {cc : ByteArray} {own : String} {ret : Option FieldType} {D : Nat} {E : f_E} {S : f_S} {encR : ρ0 → Option Value} {post : ρ0 → f_Mem → Prop} {G : f_G} (hR : Rul cc own ret D E S encR post G) : r_iand cc own ret D E S encR post G := hR.2.2.2.2.2.1
theorem k_ior {ρ0 : Type} {cc : ByteArray} {own : String} {ret : Option FieldType} {D : Nat} {E : f_E} {S : f_S} {encR : ρ0 → Option Value} {post : ρ0 → f_Mem → Prop} {G : f_G} (hR : Rul cc own ret D E S encR post G) : r_ior cc own ret D E S encR post G := hR.2.2.2.2.2.2.1
theorem k_ixor {ρ0 : Type} {cc : ByteArray} {own : String} {ret : Option FieldType} {D : Nat} {E : f_E} {S : f_S} {encR : ρ0 → Option Value} {post : ρ0 → f_Mem → Prop} {G : f_G} (hR : Rul cc own ret D E S encR post G) : r_ixor cc own ret D E S encR post G := hR.2.2.2.2.2.2.2.1
theorem k_ishl {ρ0 : Type} {cc : ByteArray} {own : String} {ret : Option FieldType} {D : Nat} {E : f_E} {S : f_S} {encR : ρ0 → Option Value} {post : ρ0 → f_Mem → Prop} {G : f_G} (hR : Rul cc own ret D E S encR post G) : r_ishl cc own ret D E S encR post G := hR.2.2.2.2.2.2.2.2.1
theorem k_ishr {ρ0 : Type} {cc : ByteArray} {own : String} {ret : Option FieldType} {D : Nat} {E : f_E} {S : f_S} {encR : ρ0 → Option Value} {post : ρ0 → f_Mem → Prop} {G : f_G} (hR : Rul cc own ret D E S encR post G) : r_ishr cc own ret D E S encR post G := hR.2.2.2.2.2.2.2.2.2.1
theorem k_iushr {ρ0 : Type} {cc : ByteArray} {own : String} {ret : Option FieldType} {D : Nat} {E : f_E} {S : f_S} {encR : ρ0 → Option Value} {post : ρ0 → f_Mem → Prop} {G : f_G} (hR : Rul cc own ret D E S encR post G) : r_iushr cc own ret D E S encR post G := hR.2.2.2.2.2.2.2.2.2.2.1
theorem k_ladd {ρ0 : Type} {cc : ByteArray} {own : String} {ret : Option FieldType} {D : Nat} {E : f_E} {S : f_S} {encR : ρ0 → Option Value} {post : ρ0 → f_Mem → Prop} {G : f_G} (hR : Rul cc own ret D E S encR post G) : r_ladd cc own ret D E S encR post G := hR.2.2.2.2.2.2.2.2.2.2.2.1
theorem k_lmul {ρ0 : Type} {cc : ByteArray} {own : String} {ret : Option FieldType} {D : Nat} {E : f_E} {S : f_S} {encR : ρ0 → Option Value} {post : ρ0 → f_Mem → Prop} {G : f_G} (hR : Rul cc own ret D E S encR post G) : r_lmul cc own ret D E S encR post G := hR.2.2.2.2.2.2.2.2.2.2.2.2.1
theorem k_ldiv {ρ0 : Type} {cc : ByteArray} {own : String} {ret : Option FieldType} {D : Nat} {E : f_E} {S : f_S} {encR : ρ0 → Option Value} {post : ρ0 → f_Mem → Prop} {G : f_G} (hR : Rul cc own ret D E S encR post G) : r_ldiv cc own ret D E S encR post G := hR.2.2.2.2.2.2.2.2.2.2.2.2.2.1
theorem k_lrem {ρ0 : Type} {cc : ByteArray} {own : String} {ret : Option FieldType} {D : Nat} {E : f_E} {S : f_S} {encR : ρ0 → Option Value} {post : ρ0 → f_Mem → Prop} {G : f_G} (hR : Rul cc own ret D E S encR post G) : r_lrem cc own ret D E S encR post G := hR.2.2.2.2.2.2.2.2.2.2.2.2.2.2.1
theorem k_i2l {ρ0 : Type} {cc : ByteArray} {own : String} {ret : Option FieldType} {D : Nat} {E : f_E} {S : f_S} {encR : ρ0 → Option Value} {post : ρ0 → f_Mem → Prop} {G : f_G} (hR : Rul cc own ret D E S encR post G) : r_i2l cc own ret D E S encR post G := hR.2.2.2.2.2.2.2.2.2.2.2.2.2.2.2.1
theorem k_l2i {ρ0 : Type} {cc : ByteArray} {own : String} {ret : Option FieldType} {D : Nat} {E : f_E} {S : f_S} {encR : ρ0 → Option Value} {post : ρ0 → f_Mem → Prop} {G : f_G} (hR : Rul cc own ret D E S encR post G) : r_l2i cc own ret D E S encR post G := hR.2.2.2.2.2.2.2.2.2.2.2.2.2.2.2.2.1
theorem k_lcmp {ρ0 : Type} {cc : ByteArray} {own : String} {ret : Option FieldType} {D : Nat} {E : f_E} {S : f_S} {encR : ρ0 → Option Value} {post : ρ0 → f_Mem → Prop} {G : f_G} (hR : Rul cc own ret D E S encR post G) : r_lcmp cc own ret D E S encR post G := hR.2.2.2.2.2.2.2.2.2.2.2.2.2.2.2.2.2.1
theorem k_iconst {ρ0 : Type} {cc : ByteArray} {own : String} {ret : Option FieldType} {D : Nat} {E : f_E} {S : f_S} {encR : ρ0 → Option Value} {post : ρ0 → f_Mem → Prop} {G : f_G} (hR : Rul cc own ret D E S encR post G) : r_iconst cc own ret D E S encR post G := hR.2.2.2.2.2.2.2.2.2.2.2.2.2.2.2.2.2.2.1
theorem k_bipush {ρ0 : Type} {cc : ByteArray} {own : String} {ret : Option FieldType} {D : Nat} {E : f_E} {S : f_S} {encR : ρ0 → Option Value} {post : ρ0 → f_Mem → Prop} {G : f_G} (hR : Rul cc own ret D E S encR post G) : r_bipush cc own ret D E S encR post G := hR.2.2.2.2.2.2.2.2.2.2.2.2.2.2.2.2.2.2.2.1
theorem k_sipush {ρ0 : Type} {cc : ByteArray} {own : String} {ret : Option FieldType} {D : Nat} {E : f_E} {S : f_S} {encR : ρ0 → Option Value} {post : ρ0 → f_Mem → Prop} {G : f_G} (hR : Rul cc own ret D E S encR post G) : r_sipush cc own ret D E S encR post G := hR.2.2.2.2.2.2.2.2.2.2.2.2.2.2.2.2.2.2.2.2.1
theorem k_lconst {ρ0 : Type} {cc : ByteArray} {own : String} {ret : Option FieldType} {D : Nat} {E : f_E} {S : f_S} {encR : ρ0 → Option Value} {post : ρ0 → f_Mem → Prop} {G : f_G} (hR : Rul cc own ret D E S encR post G) : r_lconst cc own ret D E S encR post G := hR.2.2.2.2.2.2.2.2.2.2.2.2.2.2.2.2.2.2.2.2.2.1
theorem k_ldc {ρ0 : Type} {cc : ByteArray} {own : String} {ret : Option FieldType} {D : Nat} {E : f_E} {S : f_S} {encR : ρ0 → Option Value} {post : ρ0 → f_Mem → Prop} {G : f_G} (hR : Rul cc own ret D E S encR post G) : r_ldc cc own ret D E S encR post G := hR.2.2.2.2.2.2.2.2.2.2.2.2.2.2.2.2.2.2.2.2.2.2.1
theorem k_ldcw {ρ0 : Type} {cc : ByteArray} {own : String} {ret : Option FieldType} {D : Nat} {E : f_E} {S : f_S} {encR : ρ0 → Option Value} {post : ρ0 → f_Mem → Prop} {G : f_G} (hR : Rul cc own ret D E S encR post G) : r_ldcw cc own ret D E S encR post G := hR.2.2.2.2.2.2.2.2.2.2.2.2.2.2.2.2.2.2.2.2.2.2.2.1
theorem k_ldc2 {ρ0 : Type} {cc : ByteArray} {own : String} {ret : Option FieldType} {D : Nat} {E : f_E} {S : f_S} {encR : ρ0 → Option Value} {post : ρ0 → f_Mem → Prop} {G : f_G} (hR : Rul cc own ret D E S encR post G) : r_ldc2 cc own ret D E S encR post G := hR.2.2.2.2.2.2.2.2.2.2.2.2.2.2.2.2.2.2.2.2.2.2.2.2.1
theorem k_null {ρ0 : Type} {cc : ByteArray} {own : String} {ret : Option FieldType} {D : Nat} {E : f_E} {S : f_S} {encR : ρ0 → Option Value} {post : ρ0 → f_Mem → Prop} {G : f_G} (hR : Rul cc own ret D E S encR post G) : r_null cc own ret D E S encR post G := hR.2.2.2.2.2.2.2.2.2.2.2.2.2.2.2.2.2.2.2.2.2.2.2.2.2.1
theorem k_dup {ρ0 : Type} {cc : ByteArray} {own : String} {ret : Option FieldType} {D : Nat} {E : f_E} {S : f_S} {encR : ρ0 → Option Value} {post : ρ0 → f_Mem → Prop} {G : f_G} (hR : Rul cc own ret D E S encR post G) : r_dup cc own ret D E S encR post G := hR.2.2.2.2.2.2.2.2.2.2.2.2.2.2.2.2.2.2.2.2.2.2.2.2.2.2.1
theorem k_dup2 {ρ0 : Type} {cc : ByteArray} {own : String} {ret : Option FieldType} {D : Nat} {E : f_E} {S : f_S} {encR : ρ0 → Option Value} {post : ρ0 → f_Mem → Prop} {G : f_G} (hR : Rul cc own ret D E S encR post G) : r_dup2 cc own ret D E S encR post G := hR.2.2.2.2.2.2.2.2.2.2.2.2.2.2.2.2.2.2.2.2.2.2.2.2.2.2.2.1
theorem k_pop {ρ0 : Type} {cc : ByteArray} {own : String} {ret : Option FieldType} {D : Nat} {E : f_E} {S : f_S} {encR : ρ0 → Option Value} {post : ρ0 → f_Mem → Prop} {G : f_G} (hR : Rul cc own ret D E S encR post G) : r_pop cc own ret D E S encR post G := hR.2.2.2.2.2.2.2.2.2.2.2.2.2.2.2.2.2.2.2.2.2.2.2.2.2.2.2.2.1
theorem k_icmp_eq {ρ0 : Type} {cc : ByteArray} {own : String} {ret : Option FieldType} {D : Nat} {E : f_E} {S : f_S} {encR : ρ0 → Option Value} {post : ρ0 → f_Mem → Prop} {G : f_G} (hR : Rul cc own ret D E S encR post G) : r_icmp_eq cc own ret D E S encR post G := hR.2.2.2.2.2.2.2.2.2.2.2.2.2.2.2.2.2.2.2.2.2.2.2.2.2.2.2.2.2.1
theorem k_icmp_ne {ρ0 : Type} {cc : ByteArray} {own : String} {ret : Option FieldType} {D : Nat} {E : f_E} {S : f_S} {encR : ρ0 → Option Value} {post : ρ0 → f_Mem → Prop} {G : f_G} (hR : Rul cc own ret D E S encR post G) : r_icmp_ne cc own ret D E S encR post G := hR.2.2.2.2.2.2.2.2.2.2.2.2.2.2.2.2.2.2.2.2.2.2.2.2.2.2.2.2.2.2.1
theorem k_icmp_lt {ρ0 : Type} {cc : ByteArray} {own : String} {ret : Option FieldType} {D : Nat} {E : f_E} {S : f_S} {encR : ρ0 → Option Value} {post : ρ0 → f_Mem → Prop} {G : f_G} (hR : Rul cc own ret D E S encR post G) : r_icmp_lt cc own ret D E S encR post G := hR.2.2.2.2.2.2.2.2.2.2.2.2.2.2.2.2.2.2.2.2.2.2.2.2.2.2.2.2.2.2.2.1
theorem k_icmp_ge {ρ0 : Type} {cc : ByteArray} {own : String} {ret : Option FieldType} {D : Nat} {E : f_E} {S : f_S} {encR : ρ0 → Option Value} {post : ρ0 → f_Mem → Prop} {G : f_G} (hR : Rul cc own ret D E S encR post G) : r_icmp_ge cc own ret D E S encR post G := hR.2.2.2.2.2.2.2.2.2.2.2.2.2.2.2.2.2.2.2.2.2.2.2.2.2.2.2.2.2.2.2.2.1
theorem k_icmp_gt {ρ0 : Type} {cc : ByteArray} {own : String} {ret : Option FieldType} {D : Nat} {E : f_E} {S : f_S} {encR : ρ0 → Option Value} {post : ρ0 → f_Mem → Prop} {G : f_G} (hR : Rul cc own ret D E S encR post G) : r_icmp_gt cc own ret D E S encR post G := hR.2.2.2.2.2.2.2.2.2.2.2.2.2.2.2.2.2.2.2.2.2.2.2.2.2.2.2.2.2.2.2.2.2.1
theorem k_icmp_le {ρ0 : Type} {cc : ByteArray} {own : String} {ret : Option FieldType} {D : Nat} {E : f_E} {S : f_S} {encR : ρ0 → Option Value} {post : ρ0 → f_Mem → Prop} {G : f_G} (hR : Rul cc own ret D E S encR post G) : r_icmp_le cc own ret D E S encR post G := hR.2.2.2.2.2.2.2.2.2.2.2.2.2.2.2.2.2.2.2.2.2.2.2.2.2.2.2.2.2.2.2.2.2.2.1
theorem k_if_eq {ρ0 : Type} {cc : ByteArray} {own : String} {ret : Option FieldType} {D : Nat} {E : f_E} {S : f_S} {encR : ρ0 → Option Value} {post : ρ0 → f_Mem → Prop} {G : f_G} (hR : Rul cc own ret D E S encR post G) : r_if_eq cc own ret D E S encR post G := hR.2.2.2.2.2.2.2.2.2.2.2.2.2.2.2.2.2.2.2.2.2.2.2.2.2.2.2.2.2.2.2.2.2.2.2.1
theorem k_if_ne {ρ0 : Type} {cc : ByteArray} {own : String} {ret : Option FieldType} {D : Nat} {E : f_E} {S : f_S} {encR : ρ0 → Option Value} {post : ρ0 → f_Mem → Prop} {G : f_G} (hR : Rul cc own ret D E S encR post G) : r_if_ne cc own ret D E S encR post G := hR.2.2.2.2.2.2.2.2.2.2.2.2.2.2.2.2.2.2.2.2.2.2.2.2.2.2.2.2.2.2.2.2.2.2.2.2.1
theorem k_if_lt {ρ0 : Type} {cc : ByteArray} {own : String} {ret : Option FieldType} {D : Nat} {E : f_E} {S : f_S} {encR : ρ0 → Option Value} {post : ρ0 → f_Mem → Prop} {G : f_G} (hR : Rul cc own ret D E S encR post G) : r_if_lt cc own ret D E S encR post G := hR.2.2.2.2.2.2.2.2.2.2.2.2.2.2.2.2.2.2.2.2.2.2.2.2.2.2.2.2.2.2.2.2.2.2.2.2.2.1
theorem k_if_ge {ρ0 : Type} {cc : ByteArray} {own : String} {ret : Option FieldType} {D : Nat} {E : f_E} {S : f_S} {encR : ρ0 → Option Value} {post : ρ0 → f_Mem → Prop} {G : f_G} (hR : Rul cc own ret D E S encR post G) : r_if_ge cc own ret D E S encR post G := hR.2.2.2.2.2.2.2.2.2.2.2.2.2.2.2.2.2.2.2.2.2.2.2.2.2.2.2.2.2.2.2.2.2.2.2.2.2.2.1
theorem k_if_gt {ρ0 : Type} {cc : ByteArray} {own : String} {ret : Option FieldType} {D : Nat} {E : f_E} {S : f_S} {encR : ρ0 → Option Value} {post : ρ0 → f_Mem → Prop} {G : f_G} (hR : Rul cc own ret D E S encR post G) : r_if_gt cc own ret D E S encR post G := hR.2.2.2.2.2.2.2.2.2.2.2.2.2.2.2.2.2.2.2.2.2.2.2.2.2.2.2.2.2.2.2.2.2.2.2.2.2.2.2.1
theorem k_if_le {ρ0 : Type} {cc : ByteArray} {own : String} {ret : Option FieldType} {D : Nat} {E : f_E} {S : f_S} {encR : ρ0 → Option Value} {post : ρ0 → f_Mem → Prop} {G : f_G} (hR : Rul cc own ret D E S encR post G) : r_if_le cc own ret D E S encR post G := hR.2.2.2.2.2.2.2.2.2.2.2.2.2.2.2.2.2.2.2.2.2.2.2.2.2.2.2.2.2.2.2.2.2.2.2.2.2.2.2.2.1
theorem k_goto {ρ0 : Type} {cc : ByteArray} {own : String} {ret : Option FieldType} {D : Nat} {E : f_E} {S : f_S} {encR : ρ0 → Option Value} {post : ρ0 → f_Mem → Prop} {G : f_G} (hR : Rul cc own ret D E S encR post G) : r_goto cc own ret D E S encR post G := hR.2.2.2.2.2.2.2.2.2.2.2.2.2.2.2.2.2.2.2.2.2.2.2.2.2.2.2.2.2.2.2.2.2.2.2.2.2.2.2.2.2.1
theorem k_ifnull {ρ0 : Type} {cc : ByteArray} {own : String} {ret : Option FieldType} {D : Nat} {E : f_E} {S : f_S} {encR : ρ0 → Option Value} {post : ρ0 → f_Mem → Prop} {G : f_G} (hR : Rul cc own ret D E S encR post G) : r_ifnull cc own ret D E S encR post G := hR.2.2.2.2.2.2.2.2.2.2.2.2.2.2.2.2.2.2.2.2.2.2.2.2.2.2.2.2.2.2.2.2.2.2.2.2.2.2.2.2.2.2.1
theorem k_ifnullN {ρ0 : Type} {cc : ByteArray} {own : String} {ret : Option FieldType} {D : Nat} {E : f_E} {S : f_S} {encR : ρ0 → Option Value} {post : ρ0 → f_Mem → Prop} {G : f_G} (hR : Rul cc own ret D E S encR post G) : r_ifnullN cc own ret D E S encR post G := hR.2.2.2.2.2.2.2.2.2.2.2.2.2.2.2.2.2.2.2.2.2.2.2.2.2.2.2.2.2.2.2.2.2.2.2.2.2.2.2.2.2.2.2.1
theorem k_ifnonnull {ρ0 : Type} {cc : ByteArray} {own : String} {ret : Option FieldType} {D : Nat} {E : f_E} {S : f_S} {encR : ρ0 → Option Value} {post : ρ0 → f_Mem → Prop} {G : f_G} (hR : Rul cc own ret D E S encR post G) : r_ifnonnull cc own ret D E S encR post G := hR.2.2.2.2.2.2.2.2.2.2.2.2.2.2.2.2.2.2.2.2.2.2.2.2.2.2.2.2.2.2.2.2.2.2.2.2.2.2.2.2.2.2.2.2.1
theorem k_ifnonnullN {ρ0 : Type} {cc : ByteArray} {own : String} {ret : Option FieldType} {D : Nat} {E : f_E} {S : f_S} {encR : ρ0 → Option Value} {post : ρ0 → f_Mem → Prop} {G : f_G} (hR : Rul cc own ret D E S encR post G) : r_ifnonnullN cc own ret D E S encR post G := hR.2.2.2.2.2.2.2.2.2.2.2.2.2.2.2.2.2.2.2.2.2.2.2.2.2.2.2.2.2.2.2.2.2.2.2.2.2.2.2.2.2.2.2.2.2.1
theorem k_tblIn {ρ0 : Type} {cc : ByteArray} {own : String} {ret : Option FieldType} {D : Nat} {E : f_E} {S : f_S} {encR : ρ0 → Option Value} {post : ρ0 → f_Mem → Prop} {G : f_G} (hR : Rul cc own ret D E S encR post G) : r_tblIn cc own ret D E S encR post G := hR.2.2.2.2.2.2.2.2.2.2.2.2.2.2.2.2.2.2.2.2.2.2.2.2.2.2.2.2.2.2.2.2.2.2.2.2.2.2.2.2.2.2.2.2.2.2.1
theorem k_tblOut {ρ0 : Type} {cc : ByteArray} {own : String} {ret : Option FieldType} {D : Nat} {E : f_E} {S : f_S} {encR : ρ0 → Option Value} {post : ρ0 → f_Mem → Prop} {G : f_G} (hR : Rul cc own ret D E S encR post G) : r_tblOut cc own ret D E S encR post G := hR.2.2.2.2.2.2.2.2.2.2.2.2.2.2.2.2.2.2.2.2.2.2.2.2.2.2.2.2.2.2.2.2.2.2.2.2.2.2.2.2.2.2.2.2.2.2.2.1
theorem k_iload_n {ρ0 : Type} {cc : ByteArray} {own : String} {ret : Option FieldType} {D : Nat} {E : f_E} {S : f_S} {encR : ρ0 → Option Value} {post : ρ0 → f_Mem → Prop} {G : f_G} (hR : Rul cc own ret D E S encR post G) : r_iload_n cc own ret D E S encR post G := hR.2.2.2.2.2.2.2.2.2.2.2.2.2.2.2.2.2.2.2.2.2.2.2.2.2.2.2.2.2.2.2.2.2.2.2.2.2.2.2.2.2.2.2.2.2.2.2.2.1
theorem k_iload {ρ0 : Type} {cc : ByteArray} {own : String} {ret : Option FieldType} {D : Nat} {E : f_E} {S : f_S} {encR : ρ0 → Option Value} {post : ρ0 → f_Mem → Prop} {G : f_G} (hR : Rul cc own ret D E S encR post G) : r_iload cc own ret D E S encR post G := hR.2.2.2.2.2.2.2.2.2.2.2.2.2.2.2.2.2.2.2.2.2.2.2.2.2.2.2.2.2.2.2.2.2.2.2.2.2.2.2.2.2.2.2.2.2.2.2.2.2.1
theorem k_aload_n {ρ0 : Type} {cc : ByteArray} {own : String} {ret : Option FieldType} {D : Nat} {E : f_E} {S : f_S} {encR : ρ0 → Option Value} {post : ρ0 → f_Mem → Prop} {G : f_G} (hR : Rul cc own ret D E S encR post G) : r_aload_n cc own ret D E S encR post G := hR.2.2.2.2.2.2.2.2.2.2.2.2.2.2.2.2.2.2.2.2.2.2.2.2.2.2.2.2.2.2.2.2.2.2.2.2.2.2.2.2.2.2.2.2.2.2.2.2.2.2.1
theorem k_aload {ρ0 : Type} {cc : ByteArray} {own : String} {ret : Option FieldType} {D : Nat} {E : f_E} {S : f_S} {encR : ρ0 → Option Value} {post : ρ0 → f_Mem → Prop} {G : f_G} (hR : Rul cc own ret D E S encR post G) : r_aload cc own ret D E S encR post G := hR.2.2.2.2.2.2.2.2.2.2.2.2.2.2.2.2.2.2.2.2.2.2.2.2.2.2.2.2.2.2.2.2.2.2.2.2.2.2.2.2.2.2.2.2.2.2.2.2.2.2.2.1
theorem k_aloadN_n {ρ0 : Type} {cc : ByteArray} {own : String} {ret : Option FieldType} {D : Nat} {E : f_E} {S : f_S} {encR : ρ0 → Option Value} {post : ρ0 → f_Mem → Prop} {G : f_G} (hR : Rul cc own ret D E S encR post G) : r_aloadN_n cc own ret D E S encR post G := hR.2.2.2.2.2.2.2.2.2.2.2.2.2.2.2.2.2.2.2.2.2.2.2.2.2.2.2.2.2.2.2.2.2.2.2.2.2.2.2.2.2.2.2.2.2.2.2.2.2.2.2.2.1
theorem k_aloadN {ρ0 : Type} {cc : ByteArray} {own : String} {ret : Option FieldType} {D : Nat} {E : f_E} {S : f_S} {encR : ρ0 → Option Value} {post : ρ0 → f_Mem → Prop} {G : f_G} (hR : Rul cc own ret D E S encR post G) : r_aloadN cc own ret D E S encR post G := hR.2.2.2.2.2.2.2.2.2.2.2.2.2.2.2.2.2.2.2.2.2.2.2.2.2.2.2.2.2.2.2.2.2.2.2.2.2.2.2.2.2.2.2.2.2.2.2.2.2.2.2.2.2.1
theorem k_lload_n {ρ0 : Type} {cc : ByteArray} {own : String} {ret : Option FieldType} {D : Nat} {E : f_E} {S : f_S} {encR : ρ0 → Option Value} {post : ρ0 → f_Mem → Prop} {G : f_G} (hR : Rul cc own ret D E S encR post G) : r_lload_n cc own ret D E S encR post G := hR.2.2.2.2.2.2.2.2.2.2.2.2.2.2.2.2.2.2.2.2.2.2.2.2.2.2.2.2.2.2.2.2.2.2.2.2.2.2.2.2.2.2.2.2.2.2.2.2.2.2.2.2.2.2.1
theorem k_lload {ρ0 : Type} {cc : ByteArray} {own : String} {ret : Option FieldType} {D : Nat} {E : f_E} {S : f_S} {encR : ρ0 → Option Value} {post : ρ0 → f_Mem → Prop} {G : f_G} (hR : Rul cc own ret D E S encR post G) : r_lload cc own ret D E S encR post G := hR.2.2.2.2.2.2.2.2.2.2.2.2.2.2.2.2.2.2.2.2.2.2.2.2.2.2.2.2.2.2.2.2.2.2.2.2.2.2.2.2.2.2.2.2.2.2.2.2.2.2.2.2.2.2.2.1
theorem k_istore_n {ρ0 : Type} {cc : ByteArray} {own : String} {ret : Option FieldType} {D : Nat} {E : f_E} {S : f_S} {encR : ρ0 → Option Value} {post : ρ0 → f_Mem → Prop} {G : f_G} (hR : Rul cc own ret D E S encR post G) : r_istore_n cc own ret D E S encR post G := hR.2.2.2.2.2.2.2.2.2.2.2.2.2.2.2.2.2.2.2.2.2.2.2.2.2.2.2.2.2.2.2.2.2.2.2.2.2.2.2.2.2.2.2.2.2.2.2.2.2.2.2.2.2.2.2.2.1
theorem k_istore {ρ0 : Type} {cc : ByteArray} {own : String} {ret : Option FieldType} {D : Nat} {E : f_E} {S : f_S} {encR : ρ0 → Option Value} {post : ρ0 → f_Mem → Prop} {G : f_G} (hR : Rul cc own ret D E S encR post G) : r_istore cc own ret D E S encR post G := hR.2.2.2.2.2.2.2.2.2.2.2.2.2.2.2.2.2.2.2.2.2.2.2.2.2.2.2.2.2.2.2.2.2.2.2.2.2.2.2.2.2.2.2.2.2.2.2.2.2.2.2.2.2.2.2.2.2.1
theorem k_astore_n {ρ0 : Type} {cc : ByteArray} {own : String} {ret : Option FieldType} {D : Nat} {E : f_E} {S : f_S} {encR : ρ0 → Option Value} {post : ρ0 → f_Mem → Prop} {G : f_G} (hR : Rul cc own ret D E S encR post G) : r_astore_n cc own ret D E S encR post G := hR.2.2.2.2.2.2.2.2.2.2.2.2.2.2.2.2.2.2.2.2.2.2.2.2.2.2.2.2.2.2.2.2.2.2.2.2.2.2.2.2.2.2.2.2.2.2.2.2.2.2.2.2.2.2.2.2.2.2.1
theorem k_astore {ρ0 : Type} {cc : ByteArray} {own : String} {ret : Option FieldType} {D : Nat} {E : f_E} {S : f_S} {encR : ρ0 → Option Value} {post : ρ0 → f_Mem → Prop} {G : f_G} (hR : Rul cc own ret D E S encR post G) : r_astore cc own ret D E S encR post G := hR.2.2.2.2.2.2.2.2.2.2.2.2.2.2.2.2.2.2.2.2.2.2.2.2.2.2.2.2.2.2.2.2.2.2.2.2.2.2.2.2.2.2.2.2.2.2.2.2.2.2.2.2.2.2.2.2.2.2.2.1
theorem k_astoreN_n {ρ0 : Type} {cc : ByteArray} {own : String} {ret : Option FieldType} {D : Nat} {E : f_E} {S : f_S} {encR : ρ0 → Option Value} {post : ρ0 → f_Mem → Prop} {G : f_G} (hR : Rul cc own ret D E S encR post G) : r_astoreN_n cc own ret D E S encR post G := hR.2.2.2.2.2.2.2.2.2.2.2.2.2.2.2.2.2.2.2.2.2.2.2.2.2.2.2.2.2.2.2.2.2.2.2.2.2.2.2.2.2.2.2.2.2.2.2.2.2.2.2.2.2.2.2.2.2.2.2.2.1
theorem k_astoreN {ρ0 : Type} {cc : ByteArray} {own : String} {ret : Option FieldType} {D : Nat} {E : f_E} {S : f_S} {encR : ρ0 → Option Value} {post : ρ0 → f_Mem → Prop} {G : f_G} (hR : Rul cc own ret D E S encR post G) : r_astoreN cc own ret D E S encR post G := hR.2.2.2.2.2.2.2.2.2.2.2.2.2.2.2.2.2.2.2.2.2.2.2.2.2.2.2.2.2.2.2.2.2.2.2.2.2.2.2.2.2.2.2.2.2.2.2.2.2.2.2.2.2.2.2.2.2.2.2.2.2.1
theorem k_lstore_n {ρ0 : Type} {cc : ByteArray} {own : String} {ret : Option FieldType} {D : Nat} {E : f_E} {S : f_S} {encR : ρ0 → Option Value} {post : ρ0 → f_Mem → Prop} {G : f_G} (hR : Rul cc own ret D E S encR post G) : r_lstore_n cc own ret D E S encR post G := hR.2.2.2.2.2.2.2.2.2.2.2.2.2.2.2.2.2.2.2.2.2.2.2.2.2.2.2.2.2.2.2.2.2.2.2.2.2.2.2.2.2.2.2.2.2.2.2.2.2.2.2.2.2.2.2.2.2.2.2.2.2.2.1
theorem k_lstore {ρ0 : Type} {cc : ByteArray} {own : String} {ret : Option FieldType} {D : Nat} {E : f_E} {S : f_S} {encR : ρ0 → Option Value} {post : ρ0 → f_Mem → Prop} {G : f_G} (hR : Rul cc own ret D E S encR post G) : r_lstore cc own ret D E S encR post G := hR.2.2.2.2.2.2.2.2.2.2.2.2.2.2.2.2.2.2.2.2.2.2.2.2.2.2.2.2.2.2.2.2.2.2.2.2.2.2.2.2.2.2.2.2.2.2.2.2.2.2.2.2.2.2.2.2.2.2.2.2.2.2.2.1
theorem k_iinc {ρ0 : Type} {cc : ByteArray} {own : String} {ret : Option FieldType} {D : Nat} {E : f_E} {S : f_S} {encR : ρ0 → Option Value} {post : ρ0 → f_Mem → Prop} {G : f_G} (hR : Rul cc own ret D E S encR post G) : r_iinc cc own ret D E S encR post G := hR.2.2.2.2.2.2.2.2.2.2.2.2.2.2.2.2.2.2.2.2.2.2.2.2.2.2.2.2.2.2.2.2.2.2.2.2.2.2.2.2.2.2.2.2.2.2.2.2.2.2.2.2.2.2.2.2.2.2.2.2.2.2.2.2.1
theorem k_getI {ρ0 : Type} {cc : ByteArray} {own : String} {ret : Option FieldType} {D : Nat} {E : f_E} {S : f_S} {encR : ρ0 → Option Value} {post : ρ0 → f_Mem → Prop} {G : f_G} (hR : Rul cc own ret D E S encR post G) : r_getI cc own ret D E S encR post G := hR.2.2.2.2.2.2.2.2.2.2.2.2.2.2.2.2.2.2.2.2.2.2.2.2.2.2.2.2.2.2.2.2.2.2.2.2.2.2.2.2.2.2.2.2.2.2.2.2.2.2.2.2.2.2.2.2.2.2.2.2.2.2.2.2.2.1
theorem k_getR {ρ0 : Type} {cc : ByteArray} {own : String} {ret : Option FieldType} {D : Nat} {E : f_E} {S : f_S} {encR : ρ0 → Option Value} {post : ρ0 → f_Mem → Prop} {G : f_G} (hR : Rul cc own ret D E S encR post G) : r_getR cc own ret D E S encR post G := hR.2.2.2.2.2.2.2.2.2.2.2.2.2.2.2.2.2.2.2.2.2.2.2.2.2.2.2.2.2.2.2.2.2.2.2.2.2.2.2.2.2.2.2.2.2.2.2.2.2.2.2.2.2.2.2.2.2.2.2.2.2.2.2.2.2.2.1
theorem k_getN {ρ0 : Type} {cc : ByteArray} {own : String} {ret : Option FieldType} {D : Nat} {E : f_E} {S : f_S} {encR : ρ0 → Option Value} {post : ρ0 → f_Mem → Prop} {G : f_G} (hR : Rul cc own ret D E S encR post G) : r_getN cc own ret D E S encR post G := hR.2.2.2.2.2.2.2.2.2.2.2.2.2.2.2.2.2.2.2.2.2.2.2.2.2.2.2.2.2.2.2.2.2.2.2.2.2.2.2.2.2.2.2.2.2.2.2.2.2.2.2.2.2.2.2.2.2.2.2.2.2.2.2.2.2.2.2.1
theorem k_put {ρ0 : Type} {cc : ByteArray} {own : String} {ret : Option FieldType} {D : Nat} {E : f_E} {S : f_S} {encR : ρ0 → Option Value} {post : ρ0 → f_Mem → Prop} {G : f_G} (hR : Rul cc own ret D E S encR post G) : r_put cc own ret D E S encR post G := hR.2.2.2.2.2.2.2.2.2.2.2.2.2.2.2.2.2.2.2.2.2.2.2.2.2.2.2.2.2.2.2.2.2.2.2.2.2.2.2.2.2.2.2.2.2.2.2.2.2.2.2.2.2.2.2.2.2.2.2.2.2.2.2.2.2.2.2.2.1
theorem k_ald {ρ0 : Type} {cc : ByteArray} {own : String} {ret : Option FieldType} {D : Nat} {E : f_E} {S : f_S} {encR : ρ0 → Option Value} {post : ρ0 → f_Mem → Prop} {G : f_G} (hR : Rul cc own ret D E S encR post G) : r_ald cc own ret D E S encR post G := hR.2.2.2.2.2.2.2.2.2.2.2.2.2.2.2.2.2.2.2.2.2.2.2.2.2.2.2.2.2.2.2.2.2.2.2.2.2.2.2.2.2.2.2.2.2.2.2.2.2.2.2.2.2.2.2.2.2.2.2.2.2.2.2.2.2.2.2.2.2.1
theorem k_ast {ρ0 : Type} {cc : ByteArray} {own : String} {ret : Option FieldType} {D : Nat} {E : f_E} {S : f_S} {encR : ρ0 → Option Value} {post : ρ0 → f_Mem → Prop} {G : f_G} (hR : Rul cc own ret D E S encR post G) : r_ast cc own ret D E S encR post G := hR.2.2.2.2.2.2.2.2.2.2.2.2.2.2.2.2.2.2.2.2.2.2.2.2.2.2.2.2.2.2.2.2.2.2.2.2.2.2.2.2.2.2.2.2.2.2.2.2.2.2.2.2.2.2.2.2.2.2.2.2.2.2.2.2.2.2.2.2.2.2.1
theorem k_alenI {ρ0 : Type} {cc : ByteArray} {own : String} {ret : Option FieldType} {D : Nat} {E : f_E} {S : f_S} {encR : ρ0 → Option Value} {post : ρ0 → f_Mem → Prop} {G : f_G} (hR : Rul cc own ret D E S encR post G) : r_alenI cc own ret D E S encR post G := hR.2.2.2.2.2.2.2.2.2.2.2.2.2.2.2.2.2.2.2.2.2.2.2.2.2.2.2.2.2.2.2.2.2.2.2.2.2.2.2.2.2.2.2.2.2.2.2.2.2.2.2.2.2.2.2.2.2.2.2.2.2.2.2.2.2.2.2.2.2.2.2.1
theorem k_alenQ {ρ0 : Type} {cc : ByteArray} {own : String} {ret : Option FieldType} {D : Nat} {E : f_E} {S : f_S} {encR : ρ0 → Option Value} {post : ρ0 → f_Mem → Prop} {G : f_G} (hR : Rul cc own ret D E S encR post G) : r_alenQ cc own ret D E S encR post G := hR.2.2.2.2.2.2.2.2.2.2.2.2.2.2.2.2.2.2.2.2.2.2.2.2.2.2.2.2.2.2.2.2.2.2.2.2.2.2.2.2.2.2.2.2.2.2.2.2.2.2.2.2.2.2.2.2.2.2.2.2.2.2.2.2.2.2.2.2.2.2.2.2.1
theorem k_aldQ {ρ0 : Type} {cc : ByteArray} {own : String} {ret : Option FieldType} {D : Nat} {E : f_E} {S : f_S} {encR : ρ0 → Option Value} {post : ρ0 → f_Mem → Prop} {G : f_G} (hR : Rul cc own ret D E S encR post G) : r_aldQ cc own ret D E S encR post G := hR.2.2.2.2.2.2.2.2.2.2.2.2.2.2.2.2.2.2.2.2.2.2.2.2.2.2.2.2.2.2.2.2.2.2.2.2.2.2.2.2.2.2.2.2.2.2.2.2.2.2.2.2.2.2.2.2.2.2.2.2.2.2.2.2.2.2.2.2.2.2.2.2.2.1
theorem k_astQ {ρ0 : Type} {cc : ByteArray} {own : String} {ret : Option FieldType} {D : Nat} {E : f_E} {S : f_S} {encR : ρ0 → Option Value} {post : ρ0 → f_Mem → Prop} {G : f_G} (hR : Rul cc own ret D E S encR post G) : r_astQ cc own ret D E S encR post G := hR.2.2.2.2.2.2.2.2.2.2.2.2.2.2.2.2.2.2.2.2.2.2.2.2.2.2.2.2.2.2.2.2.2.2.2.2.2.2.2.2.2.2.2.2.2.2.2.2.2.2.2.2.2.2.2.2.2.2.2.2.2.2.2.2.2.2.2.2.2.2.2.2.2.2.1
theorem k_max {ρ0 : Type} {cc : ByteArray} {own : String} {ret : Option FieldType} {D : Nat} {E : f_E} {S : f_S} {encR : ρ0 → Option Value} {post : ρ0 → f_Mem → Prop} {G : f_G} (hR : Rul cc own ret D E S encR post G) : r_max cc own ret D E S encR post G := hR.2.2.2.2.2.2.2.2.2.2.2.2.2.2.2.2.2.2.2.2.2.2.2.2.2.2.2.2.2.2.2.2.2.2.2.2.2.2.2.2.2.2.2.2.2.2.2.2.2.2.2.2.2.2.2.2.2.2.2.2.2.2.2.2.2.2.2.2.2.2.2.2.2.2.2.1
theorem k_min {ρ0 : Type} {cc : ByteArray} {own : String} {ret : Option FieldType} {D : Nat} {E : f_E} {S : f_S} {encR : ρ0 → Option Value} {post : ρ0 → f_Mem → Prop} {G : f_G} (hR : Rul cc own ret D E S encR post G) : r_min cc own ret D E S encR post G := hR.2.2.2.2.2.2.2.2.2.2.2.2.2.2.2.2.2.2.2.2.2.2.2.2.2.2.2.2.2.2.2.2.2.2.2.2.2.2.2.2.2.2.2.2.2.2.2.2.2.2.2.2.2.2.2.2.2.2.2.2.2.2.2.2.2.2.2.2.2.2.2.2.2.2.2.2.1
theorem k_copy {ρ0 : Type} {cc : ByteArray} {own : String} {ret : Option FieldType} {D : Nat} {E : f_E} {S : f_S} {encR : ρ0 → Option Value} {post : ρ0 → f_Mem → Prop} {G : f_G} (hR : Rul cc own ret D E S encR post G) : r_copy cc own ret D E S encR post G := hR.2.2.2.2.2.2.2.2.2.2.2.2.2.2.2.2.2.2.2.2.2.2.2.2.2.2.2.2.2.2.2.2.2.2.2.2.2.2.2.2.2.2.2.2.2.2.2.2.2.2.2.2.2.2.2.2.2.2.2.2.2.2.2.2.2.2.2.2.2.2.2.2.2.2.2.2.2.1
theorem k_callV {ρ0 : Type} {cc : ByteArray} {own : String} {ret : Option FieldType} {D : Nat} {E : f_E} {S : f_S} {encR : ρ0 → Option Value} {post : ρ0 → f_Mem → Prop} {G : f_G} (hR : Rul cc own ret D E S encR post G) : r_callV cc own ret D E S encR post G := hR.2.2.2.2.2.2.2.2.2.2.2.2.2.2.2.2.2.2.2.2.2.2.2.2.2.2.2.2.2.2.2.2.2.2.2.2.2.2.2.2.2.2.2.2.2.2.2.2.2.2.2.2.2.2.2.2.2.2.2.2.2.2.2.2.2.2.2.2.2.2.2.2.2.2.2.2.2.2.1
theorem k_callS {ρ0 : Type} {cc : ByteArray} {own : String} {ret : Option FieldType} {D : Nat} {E : f_E} {S : f_S} {encR : ρ0 → Option Value} {post : ρ0 → f_Mem → Prop} {G : f_G} (hR : Rul cc own ret D E S encR post G) : r_callS cc own ret D E S encR post G := hR.2.2.2.2.2.2.2.2.2.2.2.2.2.2.2.2.2.2.2.2.2.2.2.2.2.2.2.2.2.2.2.2.2.2.2.2.2.2.2.2.2.2.2.2.2.2.2.2.2.2.2.2.2.2.2.2.2.2.2.2.2.2.2.2.2.2.2.2.2.2.2.2.2.2.2.2.2.2.2.1
theorem k_iret {ρ0 : Type} {cc : ByteArray} {own : String} {ret : Option FieldType} {D : Nat} {E : f_E} {S : f_S} {encR : ρ0 → Option Value} {post : ρ0 → f_Mem → Prop} {G : f_G} (hR : Rul cc own ret D E S encR post G) : r_iret cc own ret D E S encR post G := hR.2.2.2.2.2.2.2.2.2.2.2.2.2.2.2.2.2.2.2.2.2.2.2.2.2.2.2.2.2.2.2.2.2.2.2.2.2.2.2.2.2.2.2.2.2.2.2.2.2.2.2.2.2.2.2.2.2.2.2.2.2.2.2.2.2.2.2.2.2.2.2.2.2.2.2.2.2.2.2.2.1
theorem k_vret {ρ0 : Type} {cc : ByteArray} {own : String} {ret : Option FieldType} {D : Nat} {E : f_E} {S : f_S} {encR : ρ0 → Option Value} {post : ρ0 → f_Mem → Prop} {G : f_G} (hR : Rul cc own ret D E S encR post G) : r_vret cc own ret D E S encR post G := hR.2.2.2.2.2.2.2.2.2.2.2.2.2.2.2.2.2.2.2.2.2.2.2.2.2.2.2.2.2.2.2.2.2.2.2.2.2.2.2.2.2.2.2.2.2.2.2.2.2.2.2.2.2.2.2.2.2.2.2.2.2.2.2.2.2.2.2.2.2.2.2.2.2.2.2.2.2.2.2.2.2.1
theorem k_lret {ρ0 : Type} {cc : ByteArray} {own : String} {ret : Option FieldType} {D : Nat} {E : f_E} {S : f_S} {encR : ρ0 → Option Value} {post : ρ0 → f_Mem → Prop} {G : f_G} (hR : Rul cc own ret D E S encR post G) : r_lret cc own ret D E S encR post G := hR.2.2.2.2.2.2.2.2.2.2.2.2.2.2.2.2.2.2.2.2.2.2.2.2.2.2.2.2.2.2.2.2.2.2.2.2.2.2.2.2.2.2.2.2.2.2.2.2.2.2.2.2.2.2.2.2.2.2.2.2.2.2.2.2.2.2.2.2.2.2.2.2.2.2.2.2.2.2.2.2.2.2.1
theorem k_aret {ρ0 : Type} {cc : ByteArray} {own : String} {ret : Option FieldType} {D : Nat} {E : f_E} {S : f_S} {encR : ρ0 → Option Value} {post : ρ0 → f_Mem → Prop} {G : f_G} (hR : Rul cc own ret D E S encR post G) : r_aret cc own ret D E S encR post G := hR.2.2.2.2.2.2.2.2.2.2.2.2.2.2.2.2.2.2.2.2.2.2.2.2.2.2.2.2.2.2.2.2.2.2.2.2.2.2.2.2.2.2.2.2.2.2.2.2.2.2.2.2.2.2.2.2.2.2.2.2.2.2.2.2.2.2.2.2.2.2.2.2.2.2.2.2.2.2.2.2.2.2.2

theorem tb_max1 : Cond.static Lib.Math.max.name ∈ tb := tb_in (List.mem_of_getElem? (i := 77) (by decide +kernel)) (by decide +kernel)
theorem tb_max2 : Cond.code Lib.Math.max.name Lib.Math.max.code 2 (some .int) ∈ tb := tb_in (List.mem_of_getElem? (i := 78) (by decide +kernel)) (by decide +kernel)
theorem tb_min1 : Cond.static Lib.Math.min.name ∈ tb := tb_in (List.mem_of_getElem? (i := 401) (by decide +kernel)) (by decide +kernel)
theorem tb_min2 : Cond.code Lib.Math.min.name Lib.Math.min.code 2 (some .int) ∈ tb := tb_in (List.mem_of_getElem? (i := 402) (by decide +kernel)) (by decide +kernel)
theorem tb_math : Cond.initialized "java/lang/Math" ∈ tb := tb_in (List.mem_of_getElem? (i := 48) (by decide +kernel)) (by decide +kernel)
theorem tb_copy1 : Cond.native arraycopyName ∈ tb := tb_in (List.mem_of_getElem? (i := 405) (by decide +kernel)) (by decide +kernel)
theorem tb_copy2 : Cond.static arraycopyName ∈ tb := tb_in (List.mem_of_getElem? (i := 404) (by decide +kernel)) (by decide +kernel)
theorem tb_sys : Cond.initialized "java/lang/System" ∈ tb := tb_in (List.mem_of_getElem? (i := 59) (by decide +kernel)) (by decide +kernel)
section FLAT
variable {p : Program} {l : Launch} {e : Env} {s : State} {m : MethodId} {args : Array Value} {below : List Frame} {meth : Method} {c : Code} {Q : State → Prop} {A : Nat → Prop} {E : f_E} {S : f_S} {nL : Nat} {cc : ByteArray} {own : String} {D : Nat}
def f_GG (p : Program) (e : Env) (D : Nat) (s : State) (m : MethodId) (args : Array Value) (below : List Frame) (meth : Method) (c : Code) (Q : State → Prop) (A : Nat → Prop) (E : f_E) (S : f_S) (nL : Nat) : f_G := fun pc L st σ => ∀ (H : Heap) (locs : List Loc) (ls : Array Slot), f_P E S σ H → va_S A s.heap H locs → f_ls ls nL L → W p E.1 e (f_rm D) s m args below meth c H locs 0 0 Q (F0 m pc ls st)
/-- behind a call: whatever it answers -/
theorem f_call {ρ : Type} {R : Room} {H : Heap} {locs : List Loc} {H0 : Heap} {pc : Nat} {ls : Array Slot} {rest st0 : List Value} {a : Array Value} {A0 A1 : Nat → Prop} {free : Addr → Prop} {enc : ρ → Option Value} {post : ρ → f_Mem → Prop} (hr : va_Run p l e R s m args below meth c H locs 0 0 0 0 (F0 m pc ls st0) rest (f_Q E S enc post A1 a) free) (hS : va_S A0 H0 H locs) (hA : ∀ q, q < H.size → A1 q → A0 q) (hf : ∀ q, free q → A0 q)
    (kk : ∀ (r : ρ) (u : f_Mem) (H1 : Heap) (locs1 : List Loc), post r u → f_P E S u H1 → va_S A0 H0 H1 locs1 → W p l e R s m args below meth c H1 locs1 0 0 Q (F0 m (pc + 3) ls ((enc r).toList ++ rest))) : W p l e R s m args below meth c H locs 0 0 Q (F0 m pc ls st0) := by
  intro T hT X
  obtain ⟨v, st₀, t, T', L, h0, X', hL, e1, e2, ⟨⟨r, u, hv, hp, hb, hk9⟩, hz, hk⟩, st⟩ := hr T hT X
  cases hv
  rw [h0] at hz hk
  obtain ⟨t2, a1, b1⟩ := kk r u T'.heap (locs ++ L) hp (by rw [e1]; exact hb)
    ⟨Nat.le_trans hS.1 (by rw [e1]; exact hz), fun q h1 h2 => by rw [e1, hk q (Nat.lt_of_lt_of_le h1 hS.1) (fun z => h2 (hA q (Nat.lt_of_lt_of_le h1 hS.1) z))]; exact hS.2.1 q h1 h2, fun q hq => by
      rcases List.mem_append.mp hq with h | h
      · exact hS.2.2 q h
      · exact hf _ (hL q h)⟩ T' rfl X'
  exact ⟨t2, st t2 a1, b1⟩

theorem f_FB {E : f_E} {S : f_S} {av : List Value} {σ : f_Mem} {sz : Nat} : FrameBlind (f_Pc E S av σ sz) := fun a U g mk q => by obtain ⟨q0, q1, q2, q3, q5, q4⟩ := q; exact ⟨q0, q1, q2, va_K.moved (u := U) (U := U.calling g mk a) (Vm.Alike.refl U.vm) q3, f_NW.same (u := U) (U := U.calling g mk a) rfl q5, q4⟩
theorem f_pay {own : String} {index : Nat} {Y : f_Y} {n d : Nat} (hts : ∀ w ∈ tb, w.before args s = true) (hc : f_LC Y) (hh : f_hd Y n) (hd : d + 1 ≤ D) (hl : (Cond.methodLink own index Y.1).before args s = true) : CallB (f_rm D) s args own index Y.1 Y.2.1 Y.2.2.1 Y.2.2.2 (Cond.code Y.1 Y.2.1 Y.2.2.1 Y.2.2.2 :: tb) (f_rm d) 0 0 n := by
  refine callB_of (Ts := tb) n hts (fun w hw => ?_) rfl rfl rfl (hts _ hc.2) hl hh.1 ⟨hd, ?_⟩
  · rcases List.mem_cons.mp hw with h | h
    · subst h; exact ⟨hc.1, tb_good _ hc.1⟩
    · exact ⟨h, tb_good _ h⟩
  · have := hh.2
    show 8 + (Y.2.2.1 + 11) + 60 * d ≤ 60 * D
    omega
theorem f_payN {own host : String} {index : Nat} {Y : f_Y} {n d : Nat} (hts : ∀ w ∈ tb, w.before args s = true) (hc : f_LC Y) (hh : f_hd Y n) (hd : d + 1 ≤ D) (hl : va_Nw (.methodLinkNest own index Y.1 host) s) : va_CN (f_rm D) s args own index Y.1 host Y.2.1 Y.2.2.1 Y.2.2.2 (Cond.code Y.1 Y.2.1 Y.2.2.1 Y.2.2.2 :: tb) (f_rm d) 0 0 n := by
  refine va_cnB (Ts := tb) n hts (fun w hw => ?_) rfl rfl rfl hl (hts _ hc.2) hh.1 ⟨hd, ?_⟩
  · rcases List.mem_cons.mp hw with h | h
    · subst h; exact ⟨hc.1, tb_good _ hc.1⟩
    · exact ⟨h, tb_good _ h⟩
  · have := hh.2
    show 8 + (Y.2.2.1 + 11) + 60 * d ≤ 60 * D
    omega
theorem s_iadd {ρ0 : Type} {ret : Option FieldType} {encR : ρ0 → Option Value} {post : ρ0 → f_Mem → Prop} (hx : p.tables.exec = Jvm.exec) (hb : c.code = cc) (hml : c.maxLocals = nL) (hown : s.vm.findClass own = some m.cls) (hts : ∀ w ∈ tb, w.before args s = true) (hN : f_NW s) (hK : f_K E s) (hI : f_I E S) (hA : ∀ k, k < S.1 → A (f_ad E k)) (hA2 : ∀ q, s.heap.size ≤ q → A q) : r_iadd cc own ret D E S encR post (f_GG p e D s m args below meth c Q A E S nL) := by
  intro pc L st σ x y hd k H locs ls hP hS hl
  exact lv_iadd hx hb hd (k H locs ls hP hS hl)
theorem s_isub {ρ0 : Type} {ret : Option FieldType} {encR : ρ0 → Option Value} {post : ρ0 → f_Mem → Prop} (hx : p.tables.exec = Jvm.exec) (hb : c.code = cc) (hml : c.maxLocals = nL) (hown : s.vm.findClass own = some m.cls) (hts : ∀ w ∈ tb, w.before args s = true) (hN : f_NW s) (hK : f_K E s) (hI : f_I E S) (hA : ∀ k, k < S.1 → A (f_ad E k)) (hA2 : ∀ q, s.heap.size ≤ q → A q) : r_isub cc own ret D E S encR post (f_GG p e D s m args below meth c Q A E S nL) := by
  intro pc L st σ x y hd k H locs ls hP hS hl
  exact lv_isub hx hb hd (k H locs ls hP hS hl)
theorem s_imul {ρ0 : Type} {ret : Option FieldType} {encR : ρ0 → Option Value} {post : ρ0 → f_Mem → Prop} (hx : p.tables.exec = Jvm.exec) (hb : c.code = cc) (hml : c.maxLocals = nL) (hown : s.vm.findClass own = some m.cls) (hts : ∀ w ∈ tb, w.before args s = true) (hN : f_NW s) (hK : f_K E s) (hI : f_I E S) (hA : ∀ k, k < S.1 → A (f_ad E k)) (hA2 : ∀ q, s.heap.size ≤ q → A q) : r_imul cc own ret D E S encR post (f_GG p e D s m args below meth c Q A E S nL) := by
  intro pc L st σ x y hd k H locs ls hP hS hl
  exact lv_imul hx hb hd (k H locs ls hP hS hl)
theorem s_idiv {ρ0 : Type} {ret : Option FieldType} {encR : ρ0 → Option Value} {post : ρ0 → f_Mem → Prop} (hx : p.tables.exec = Jvm.exec) (hb : c.code = cc) (hml : c.maxLocals = nL) (hown : s.vm.findClass own = some m.cls) (hts : ∀ w ∈ tb, w.before args s = true) (hN : f_NW s) (hK : f_K E s) (hI : f_I E S) (hA : ∀ k, k < S.1 → A (f_ad E k)) (hA2 : ∀ q, s.heap.size ≤ q → A q) : r_idiv cc own ret D E S encR post (f_GG p e D s m args below meth c Q A E S nL) := by
  intro pc L st σ x y hd h0 k H locs ls hP hS hl
  exact lv_idiv hx hb hd h0 (k H locs ls hP hS hl)
theorem s_irem {ρ0 : Type} {ret : Option FieldType} {encR : ρ0 → Option Value} {post : ρ0 → f_Mem → Prop} (hx : p.tables.exec = Jvm.exec) (hb : c.code = cc) (hml : c.maxLocals = nL) (hown : s.vm.findClass own = some m.cls) (hts : ∀ w ∈ tb, w.before args s = true) (hN : f_NW s) (hK : f_K E s) (hI : f_I E S) (hA : ∀ k, k < S.1 → A (f_ad E k)) (hA2 : ∀ q, s.heap.size ≤ q → A q) : r_irem cc own ret D E S encR post (f_GG p e D s m args below meth c Q A E S nL) := by
  intro pc L st σ x y hd h0 k H locs ls hP hS hl
  exact lv_irem hx hb hd h0 (k H locs ls hP hS hl)
theorem s_iand {ρ0 : Type} {ret : Option FieldType} {encR : ρ0 → Option Value} {post : ρ0 → f_Mem → Prop} (hx : p.tables.exec = Jvm.exec) (hb : c.code = cc) (hml : c.maxLocals = nL) (hown : s.vm.findClass own = some m.cls) (hts : ∀ w ∈ tb, w.before args s = true) (hN : f_NW s) (hK : f_K E s) (hI : f_I E S) (hA : ∀ k, k < S.1 → A (f_ad E k)) (hA2 : ∀ q, s.heap.size ≤ q → A q) : r_iand cc own ret D E S encR post (f_GG p e D s m args below meth c Q A E S nL) := by
  intro pc L st σ x y hd k H locs ls hP hS hl
  exact lv_iand hx hb hd (k H locs ls hP hS hl)
theorem s_ior {ρ0 : Type} {ret : Option FieldType} {encR : ρ0 → Option Value} {post : ρ0 → f_Mem → Prop} (hx : p.tables.exec = Jvm.exec) (hb : c.code = cc) (hml : c.maxLocals = nL) (hown : s.vm.findClass own = some m.cls) (hts : ∀ w ∈ tb, w.before args s = true) (hN : f_NW s) (hK : f_K E s) (hI : f_I E S) (hA : ∀ k, k < S.1 → A (f_ad E k)) (hA2 : ∀ q, s.heap.size ≤ q → A q) : r_ior cc own ret D E S encR post (f_GG p e D s m args below meth c Q A E S nL) := by
  intro pc L st σ x y hd k H locs ls hP hS hl
  exact lv_ior hx hb hd (k H locs ls hP hS hl)
theorem s_ixor {ρ0 : Type} {ret : Option FieldType} {encR : ρ0 → Option Value} {post : ρ0 → f_Mem → Prop} (hx : p.tables.exec = Jvm.exec) (hb : c.code = cc) (hml : c.maxLocals = nL) (hown : s.vm.findClass own = some m.cls) (hts : ∀ w ∈ tb, w.before args s = true) (hN : f_NW s) (hK : f_K E s) (hI : f_I E S) (hA : ∀ k, k < S.1 → A (f_ad E k)) (hA2 : ∀ q, s.heap.size ≤ q → A q) : r_ixor cc own ret D E S encR post (f_GG p e D s m args below meth c Q A E S nL) := by
  intro pc L st σ x y hd k H locs ls hP hS hl
  exact lv_ixor hx hb hd (k H locs ls hP hS hl)
theorem s_ishl {ρ0 : Type} {ret : Option FieldType} {encR : ρ0 → Option Value} {post : ρ0 → f_Mem → Prop} (hx : p.tables.exec = Jvm.exec) (hb : c.code = cc) (hml : c.maxLocals = nL) (hown : s.vm.findClass own = some m.cls) (hts : ∀ w ∈ tb, w.before args s = true) (hN : f_NW s) (hK : f_K E s) (hI : f_I E S) (hA : ∀ k, k < S.1 → A (f_ad E k)) (hA2 : ∀ q, s.heap.size ≤ q → A q) : r_ishl cc own ret D E S encR post (f_GG p e D s m args below meth c Q A E S nL) := by
  intro pc L st σ x y hd k H locs ls hP hS hl
  exact lv_ishl hx hb hd (k H locs ls hP hS hl)
theorem s_ishr {ρ0 : Type} {ret : Option FieldType} {encR : ρ0 → Option Value} {post : ρ0 → f_Mem → Prop} (hx : p.tables.exec = Jvm.exec) (hb : c.code = cc) (hml : c.maxLocals = nL) (hown : s.vm.findClass own = some m.cls) (hts : ∀ w ∈ tb, w.before args s = true) (hN : f_NW s) (hK : f_K E s) (hI : f_I E S) (hA : ∀ k, k < S.1 → A (f_ad E k)) (hA2 : ∀ q, s.heap.size ≤ q → A q) : r_ishr cc own ret D E S encR post (f_GG p e D s m args below meth c Q A E S nL) := by
  intro pc L st σ x y hd k H locs ls hP hS hl
  exact lv_ishr hx hb hd (k H locs ls hP hS hl)
theorem s_iushr {ρ0 : Type} {ret : Option FieldType} {encR : ρ0 → Option Value} {post : ρ0 → f_Mem → Prop} (hx : p.tables.exec = Jvm.exec) (hb : c.code = cc) (hml : c.maxLocals = nL) (hown : s.vm.findClass own = some m.cls) (hts : ∀ w ∈ tb, w.before args s = true) (hN : f_NW s) (hK : f_K E s) (hI : f_I E S) (hA : ∀ k, k < S.1 → A (f_ad E k)) (hA2 : ∀ q, s.heap.size ≤ q → A q) : r_iushr cc own ret D E S encR post (f_GG p e D s m args below meth c Q A E S nL) := by
  intro pc L st σ x y v hd h0 k H locs ls hP hS hl
  exact lv_iushr hx hb hd h0 (k H locs ls hP hS hl)
theorem s_ladd {ρ0 : Type} {ret : Option FieldType} {encR : ρ0 → Option Value} {post : ρ0 → f_Mem → Prop} (hx : p.tables.exec = Jvm.exec) (hb : c.code = cc) (hml : c.maxLocals = nL) (hown : s.vm.findClass own = some m.cls) (hts : ∀ w ∈ tb, w.before args s = true) (hN : f_NW s) (hK : f_K E s) (hI : f_I E S) (hA : ∀ k, k < S.1 → A (f_ad E k)) (hA2 : ∀ q, s.heap.size ≤ q → A q) : r_ladd cc own ret D E S encR post (f_GG p e D s m args below meth c Q A E S nL) := by
  intro pc L st σ x y hd k H locs ls hP hS hl
  exact lv_ladd hx hb hd (k H locs ls hP hS hl)
theorem s_lmul {ρ0 : Type} {ret : Option FieldType} {encR : ρ0 → Option Value} {post : ρ0 → f_Mem → Prop} (hx : p.tables.exec = Jvm.exec) (hb : c.code = cc) (hml : c.maxLocals = nL) (hown : s.vm.findClass own = some m.cls) (hts : ∀ w ∈ tb, w.before args s = true) (hN : f_NW s) (hK : f_K E s) (hI : f_I E S) (hA : ∀ k, k < S.1 → A (f_ad E k)) (hA2 : ∀ q, s.heap.size ≤ q → A q) : r_lmul cc own ret D E S encR post (f_GG p e D s m args below meth c Q A E S nL) := by
  intro pc L st σ x y hd k H locs ls hP hS hl
  exact lv_lmul hx hb hd (k H locs ls hP hS hl)
theorem s_ldiv {ρ0 : Type} {ret : Option FieldType} {encR : ρ0 → Option Value} {post : ρ0 → f_Mem → Prop} (hx : p.tables.exec = Jvm.exec) (hb : c.code = cc) (hml : c.maxLocals = nL) (hown : s.vm.findClass own = some m.cls) (hts : ∀ w ∈ tb, w.before args s = true) (hN : f_NW s) (hK : f_K E s) (hI : f_I E S) (hA : ∀ k, k < S.1 → A (f_ad E k)) (hA2 : ∀ q, s.heap.size ≤ q → A q) : r_ldiv cc own ret D E S encR post (f_GG p e D s m args below meth c Q A E S nL) := by
  intro pc L st σ x y hd h0 k H locs ls hP hS hl
  exact lv_ldiv hx hb hd h0 (k H locs ls hP hS hl)
theorem s_lrem {ρ0 : Type} {ret : Option FieldType} {encR : ρ0 → Option Value} {post : ρ0 → f_Mem → Prop} (hx : p.tables.exec = Jvm.exec) (hb : c.code = cc) (hml : c.maxLocals = nL) (hown : s.vm.findClass own = some m.cls) (hts : ∀ w ∈ tb, w.before args s = true) (hN : f_NW s) (hK : f_K E s) (hI : f_I E S) (hA : ∀ k, k < S.1 → A (f_ad E k)) (hA2 : ∀ q, s.heap.size ≤ q → A q) : r_lrem cc own ret D E S encR post (f_GG p e D s m args below meth c Q A E S nL) := by
  intro pc L st σ x y hd h0 k H locs ls hP hS hl
  exact lv_lrem hx hb hd h0 (k H locs ls hP hS hl)
theorem s_i2l {ρ0 : Type} {ret : Option FieldType} {encR : ρ0 → Option Value} {post : ρ0 → f_Mem → Prop} (hx : p.tables.exec = Jvm.exec) (hb : c.code = cc) (hml : c.maxLocals = nL) (hown : s.vm.findClass own = some m.cls) (hts : ∀ w ∈ tb, w.before args s = true) (hN : f_NW s) (hK : f_K E s) (hI : f_I E S) (hA : ∀ k, k < S.1 → A (f_ad E k)) (hA2 : ∀ q, s.heap.size ≤ q → A q) : r_i2l cc own ret D E S encR post (f_GG p e D s m args below meth c Q A E S nL) := by
  intro pc L st σ x hd k H locs ls hP hS hl
  exact lv_i2l hx hb hd rfl (k H locs ls hP hS hl)
theorem s_l2i {ρ0 : Type} {ret : Option FieldType} {encR : ρ0 → Option Value} {post : ρ0 → f_Mem → Prop} (hx : p.tables.exec = Jvm.exec) (hb : c.code = cc) (hml : c.maxLocals = nL) (hown : s.vm.findClass own = some m.cls) (hts : ∀ w ∈ tb, w.before args s = true) (hN : f_NW s) (hK : f_K E s) (hI : f_I E S) (hA : ∀ k, k < S.1 → A (f_ad E k)) (hA2 : ∀ q, s.heap.size ≤ q → A q) : r_l2i cc own ret D E S encR post (f_GG p e D s m args below meth c Q A E S nL) := by
  intro pc L st σ x hd k H locs ls hP hS hl
  exact lv_l2i hx hb hd rfl (k H locs ls hP hS hl)
theorem s_lcmp {ρ0 : Type} {ret : Option FieldType} {encR : ρ0 → Option Value} {post : ρ0 → f_Mem → Prop} (hx : p.tables.exec = Jvm.exec) (hb : c.code = cc) (hml : c.maxLocals = nL) (hown : s.vm.findClass own = some m.cls) (hts : ∀ w ∈ tb, w.before args s = true) (hN : f_NW s) (hK : f_K E s) (hI : f_I E S) (hA : ∀ k, k < S.1 → A (f_ad E k)) (hA2 : ∀ q, s.heap.size ≤ q → A q) : r_lcmp cc own ret D E S encR post (f_GG p e D s m args below meth c Q A E S nL) := by
  intro pc L st σ x y hd k H locs ls hP hS hl
  exact W.lcmp hx hb hd (k H locs ls hP hS hl)
theorem s_iconst {ρ0 : Type} {ret : Option FieldType} {encR : ρ0 → Option Value} {post : ρ0 → f_Mem → Prop} (hx : p.tables.exec = Jvm.exec) (hb : c.code = cc) (hml : c.maxLocals = nL) (hown : s.vm.findClass own = some m.cls) (hts : ∀ w ∈ tb, w.before args s = true) (hN : f_NW s) (hK : f_K E s) (hI : f_I E S) (hA : ∀ k, k < S.1 → A (f_ad E k)) (hA2 : ∀ q, s.heap.size ≤ q → A q) : r_iconst cc own ret D E S encR post (f_GG p e D s m args below meth c Q A E S nL) := by
  intro pc L st σ n v hd h0 k H locs ls hP hS hl
  exact lv_iconst hx hb hd h0 (k H locs ls hP hS hl)
theorem s_bipush {ρ0 : Type} {ret : Option FieldType} {encR : ρ0 → Option Value} {post : ρ0 → f_Mem → Prop} (hx : p.tables.exec = Jvm.exec) (hb : c.code = cc) (hml : c.maxLocals = nL) (hown : s.vm.findClass own = some m.cls) (hts : ∀ w ∈ tb, w.before args s = true) (hN : f_NW s) (hK : f_K E s) (hI : f_I E S) (hA : ∀ k, k < S.1 → A (f_ad E k)) (hA2 : ∀ q, s.heap.size ≤ q → A q) : r_bipush cc own ret D E S encR post (f_GG p e D s m args below meth c Q A E S nL) := by
  intro pc L st σ n v hd h0 k H locs ls hP hS hl
  exact lv_bipush hx hb hd h0 (k H locs ls hP hS hl)
theorem s_sipush {ρ0 : Type} {ret : Option FieldType} {encR : ρ0 → Option Value} {post : ρ0 → f_Mem → Prop} (hx : p.tables.exec = Jvm.exec) (hb : c.code = cc) (hml : c.maxLocals = nL) (hown : s.vm.findClass own = some m.cls) (hts : ∀ w ∈ tb, w.before args s = true) (hN : f_NW s) (hK : f_K E s) (hI : f_I E S) (hA : ∀ k, k < S.1 → A (f_ad E k)) (hA2 : ∀ q, s.heap.size ≤ q → A q) : r_sipush cc own ret D E S encR post (f_GG p e D s m args below meth c Q A E S nL) := by
  intro pc L st σ n v hd h0 k H locs ls hP hS hl
  exact lv_sipush hx hb hd h0 (k H locs ls hP hS hl)
theorem s_lconst {ρ0 : Type} {ret : Option FieldType} {encR : ρ0 → Option Value} {post : ρ0 → f_Mem → Prop} (hx : p.tables.exec = Jvm.exec) (hb : c.code = cc) (hml : c.maxLocals = nL) (hown : s.vm.findClass own = some m.cls) (hts : ∀ w ∈ tb, w.before args s = true) (hN : f_NW s) (hK : f_K E s) (hI : f_I E S) (hA : ∀ k, k < S.1 → A (f_ad E k)) (hA2 : ∀ q, s.heap.size ≤ q → A q) : r_lconst cc own ret D E S encR post (f_GG p e D s m args below meth c Q A E S nL) := by
  intro pc L st σ n v hd h0 k H locs ls hP hS hl
  exact lv_lconst hx hb hd h0 (k H locs ls hP hS hl)
theorem s_ldc {ρ0 : Type} {ret : Option FieldType} {encR : ρ0 → Option Value} {post : ρ0 → f_Mem → Prop} (hx : p.tables.exec = Jvm.exec) (hb : c.code = cc) (hml : c.maxLocals = nL) (hown : s.vm.findClass own = some m.cls) (hts : ∀ w ∈ tb, w.before args s = true) (hN : f_NW s) (hK : f_K E s) (hI : f_I E S) (hA : ∀ k, k < S.1 → A (f_ad E k)) (hA2 : ∀ q, s.heap.size ≤ q → A q) : r_ldc cc own ret D E S encR post (f_GG p e D s m args below meth c Q A E S nL) := by
  intro pc L st σ i v hd h0 k H locs ls hP hS hl
  exact lv_ldc hx hb hown (hts _ h0) hd (k H locs ls hP hS hl)
theorem s_ldcw {ρ0 : Type} {ret : Option FieldType} {encR : ρ0 → Option Value} {post : ρ0 → f_Mem → Prop} (hx : p.tables.exec = Jvm.exec) (hb : c.code = cc) (hml : c.maxLocals = nL) (hown : s.vm.findClass own = some m.cls) (hts : ∀ w ∈ tb, w.before args s = true) (hN : f_NW s) (hK : f_K E s) (hI : f_I E S) (hA : ∀ k, k < S.1 → A (f_ad E k)) (hA2 : ∀ q, s.heap.size ≤ q → A q) : r_ldcw cc own ret D E S encR post (f_GG p e D s m args below meth c Q A E S nL) := by
  intro pc L st σ i v hd h0 k H locs ls hP hS hl
  exact lv_ldcw hx hb hown (hts _ h0) hd (k H locs ls hP hS hl)
theorem s_ldc2 {ρ0 : Type} {ret : Option FieldType} {encR : ρ0 → Option Value} {post : ρ0 → f_Mem → Prop} (hx : p.tables.exec = Jvm.exec) (hb : c.code = cc) (hml : c.maxLocals = nL) (hown : s.vm.findClass own = some m.cls) (hts : ∀ w ∈ tb, w.before args s = true) (hN : f_NW s) (hK : f_K E s) (hI : f_I E S) (hA : ∀ k, k < S.1 → A (f_ad E k)) (hA2 : ∀ q, s.heap.size ≤ q → A q) : r_ldc2 cc own ret D E S encR post (f_GG p e D s m args below meth c Q A E S nL) := by
  intro pc L st σ i v hd h0 k H locs ls hP hS hl
  exact lv_ldc2 hx hb hown (hts _ h0) hd (k H locs ls hP hS hl)
theorem s_null {ρ0 : Type} {ret : Option FieldType} {encR : ρ0 → Option Value} {post : ρ0 → f_Mem → Prop} (hx : p.tables.exec = Jvm.exec) (hb : c.code = cc) (hml : c.maxLocals = nL) (hown : s.vm.findClass own = some m.cls) (hts : ∀ w ∈ tb, w.before args s = true) (hN : f_NW s) (hK : f_K E s) (hI : f_I E S) (hA : ∀ k, k < S.1 → A (f_ad E k)) (hA2 : ∀ q, s.heap.size ≤ q → A q) : r_null cc own ret D E S encR post (f_GG p e D s m args below meth c Q A E S nL) := by
  intro pc L st σ hd k H locs ls hP hS hl
  exact lv_null hx hb hd (k H locs ls hP hS hl)
theorem s_dup {ρ0 : Type} {ret : Option FieldType} {encR : ρ0 → Option Value} {post : ρ0 → f_Mem → Prop} (hx : p.tables.exec = Jvm.exec) (hb : c.code = cc) (hml : c.maxLocals = nL) (hown : s.vm.findClass own = some m.cls) (hts : ∀ w ∈ tb, w.before args s = true) (hN : f_NW s) (hK : f_K E s) (hI : f_I E S) (hA : ∀ k, k < S.1 → A (f_ad E k)) (hA2 : ∀ q, s.heap.size ≤ q → A q) : r_dup cc own ret D E S encR post (f_GG p e D s m args below meth c Q A E S nL) := by
  intro pc L st σ v hd h0 k H locs ls hP hS hl
  exact lv_dup hx hb hd h0 (k H locs ls hP hS hl)
theorem s_dup2 {ρ0 : Type} {ret : Option FieldType} {encR : ρ0 → Option Value} {post : ρ0 → f_Mem → Prop} (hx : p.tables.exec = Jvm.exec) (hb : c.code = cc) (hml : c.maxLocals = nL) (hown : s.vm.findClass own = some m.cls) (hts : ∀ w ∈ tb, w.before args s = true) (hN : f_NW s) (hK : f_K E s) (hI : f_I E S) (hA : ∀ k, k < S.1 → A (f_ad E k)) (hA2 : ∀ q, s.heap.size ≤ q → A q) : r_dup2 cc own ret D E S encR post (f_GG p e D s m args below meth c Q A E S nL) := by
  intro pc L st σ v w hd h0 h1 k H locs ls hP hS hl
  exact lv_dup2_11 hx hb hd h0 h1 (k H locs ls hP hS hl)
theorem s_pop {ρ0 : Type} {ret : Option FieldType} {encR : ρ0 → Option Value} {post : ρ0 → f_Mem → Prop} (hx : p.tables.exec = Jvm.exec) (hb : c.code = cc) (hml : c.maxLocals = nL) (hown : s.vm.findClass own = some m.cls) (hts : ∀ w ∈ tb, w.before args s = true) (hN : f_NW s) (hK : f_K E s) (hI : f_I E S) (hA : ∀ k, k < S.1 → A (f_ad E k)) (hA2 : ∀ q, s.heap.size ≤ q → A q) : r_pop cc own ret D E S encR post (f_GG p e D s m args below meth c Q A E S nL) := by
  intro pc L st σ v hd h0 k H locs ls hP hS hl
  exact lv_pop hx hb hd h0 (k H locs ls hP hS hl)
theorem s_icmp_eq {ρ0 : Type} {ret : Option FieldType} {encR : ρ0 → Option Value} {post : ρ0 → f_Mem → Prop} (hx : p.tables.exec = Jvm.exec) (hb : c.code = cc) (hml : c.maxLocals = nL) (hown : s.vm.findClass own = some m.cls) (hts : ∀ w ∈ tb, w.before args s = true) (hN : f_NW s) (hK : f_K E s) (hI : f_I E S) (hA : ∀ k, k < S.1 → A (f_ad E k)) (hA2 : ∀ q, s.heap.size ≤ q → A q) : r_icmp_eq cc own ret D E S encR post (f_GG p e D s m args below meth c Q A E S nL) := by
  intro pc L st σ off tgt x y hd ht kt kf H locs ls hP hS hl
  exact lv_icmp_eq hx hb hd ht (fun z => kt z H locs ls hP hS hl) (fun z => kf z H locs ls hP hS hl)
theorem s_icmp_ne {ρ0 : Type} {ret : Option FieldType} {encR : ρ0 → Option Value} {post : ρ0 → f_Mem → Prop} (hx : p.tables.exec = Jvm.exec) (hb : c.code = cc) (hml : c.maxLocals = nL) (hown : s.vm.findClass own = some m.cls) (hts : ∀ w ∈ tb, w.before args s = true) (hN : f_NW s) (hK : f_K E s) (hI : f_I E S) (hA : ∀ k, k < S.1 → A (f_ad E k)) (hA2 : ∀ q, s.heap.size ≤ q → A q) : r_icmp_ne cc own ret D E S encR post (f_GG p e D s m args below meth c Q A E S nL) := by
  intro pc L st σ off tgt x y hd ht kt kf H locs ls hP hS hl
  exact lv_icmp_ne hx hb hd ht (fun z => kt z H locs ls hP hS hl) (fun z => kf z H locs ls hP hS hl)
theorem s_icmp_lt {ρ0 : Type} {ret : Option FieldType} {encR : ρ0 → Option Value} {post : ρ0 → f_Mem → Prop} (hx : p.tables.exec = Jvm.exec) (hb : c.code = cc) (hml : c.maxLocals = nL) (hown : s.vm.findClass own = some m.cls) (hts : ∀ w ∈ tb, w.before args s = true) (hN : f_NW s) (hK : f_K E s) (hI : f_I E S) (hA : ∀ k, k < S.1 → A (f_ad E k)) (hA2 : ∀ q, s.heap.size ≤ q → A q) : r_icmp_lt cc own ret D E S encR post (f_GG p e D s m args below meth c Q A E S nL) := by
  intro pc L st σ off tgt x y hd ht kt kf H locs ls hP hS hl
  exact lv_icmp_lt hx hb hd ht (fun z => kt z H locs ls hP hS hl) (fun z => kf z H locs ls hP hS hl)
theorem s_icmp_ge {ρ0 : Type} {ret : Option FieldType} {encR : ρ0 → Option Value} {post : ρ0 → f_Mem → Prop} (hx : p.tables.exec = Jvm.exec) (hb : c.code = cc) (hml : c.maxLocals = nL) (hown : s.vm.findClass own = some m.cls) (hts : ∀ w ∈ tb, w.before args s = true) (hN : f_NW s) (hK : f_K E s) (hI : f_I E S) (hA : ∀ k, k < S.1 → A (f_ad E k)) (hA2 : ∀ q, s.heap.size ≤ q → A q) : r_icmp_ge cc own ret D E S encR post (f_GG p e D s m args below meth c Q A E S nL) := by
  intro pc L st σ off tgt x y hd ht kt kf H locs ls hP hS hl
  exact lv_icmp_ge hx hb hd ht (fun z => kt z H locs ls hP hS hl) (fun z => kf z H locs ls hP hS hl)
theorem s_icmp_gt {ρ0 : Type} {ret : Option FieldType} {encR : ρ0 → Option Value} {post : ρ0 → f_Mem → Prop} (hx : p.tables.exec = Jvm.exec) (hb : c.code = cc) (hml : c.maxLocals = nL) (hown : s.vm.findClass own = some m.cls) (hts : ∀ w ∈ tb, w.before args s = true) (hN : f_NW s) (hK : f_K E s) (hI : f_I E S) (hA : ∀ k, k < S.1 → A (f_ad E k)) (hA2 : ∀ q, s.heap.size ≤ q → A q) : r_icmp_gt cc own ret D E S encR post (f_GG p e D s m args below meth c Q A E S nL) := by
  intro pc L st σ off tgt x y hd ht kt kf H locs ls hP hS hl
  exact lv_icmp_gt hx hb hd ht (fun z => kt z H locs ls hP hS hl) (fun z => kf z H locs ls hP hS hl)
theorem s_icmp_le {ρ0 : Type} {ret : Option FieldType} {encR : ρ0 → Option Value} {post : ρ0 → f_Mem → Prop} (hx : p.tables.exec = Jvm.exec) (hb : c.code = cc) (hml : c.maxLocals = nL) (hown : s.vm.findClass own = some m.cls) (hts : ∀ w ∈ tb, w.before args s = true) (hN : f_NW s) (hK : f_K E s) (hI : f_I E S) (hA : ∀ k, k < S.1 → A (f_ad E k)) (hA2 : ∀ q, s.heap.size ≤ q → A q) : r_icmp_le cc own ret D E S encR post (f_GG p e D s m args below meth c Q A E S nL) := by
  intro pc L st σ off tgt x y hd ht kt kf H locs ls hP hS hl
  exact lv_icmp_le hx hb hd ht (fun z => kt z H locs ls hP hS hl) (fun z => kf z H locs ls hP hS hl)
theorem s_if_eq {ρ0 : Type} {ret : Option FieldType} {encR : ρ0 → Option Value} {post : ρ0 → f_Mem → Prop} (hx : p.tables.exec = Jvm.exec) (hb : c.code = cc) (hml : c.maxLocals = nL) (hown : s.vm.findClass own = some m.cls) (hts : ∀ w ∈ tb, w.before args s = true) (hN : f_NW s) (hK : f_K E s) (hI : f_I E S) (hA : ∀ k, k < S.1 → A (f_ad E k)) (hA2 : ∀ q, s.heap.size ≤ q → A q) : r_if_eq cc own ret D E S encR post (f_GG p e D s m args below meth c Q A E S nL) := by
  intro pc L st σ off tgt x hd ht kt kf H locs ls hP hS hl
  exact lv_if_eq hx hb hd ht (fun z => kt z H locs ls hP hS hl) (fun z => kf z H locs ls hP hS hl)
theorem s_if_ne {ρ0 : Type} {ret : Option FieldType} {encR : ρ0 → Option Value} {post : ρ0 → f_Mem → Prop} (hx : p.tables.exec = Jvm.exec) (hb : c.code = cc) (hml : c.maxLocals = nL) (hown : s.vm.findClass own = some m.cls) (hts : ∀ w ∈ tb, w.before args s = true) (hN : f_NW s) (hK : f_K E s) (hI : f_I E S) (hA : ∀ k, k < S.1 → A (f_ad E k)) (hA2 : ∀ q, s.heap.size ≤ q → A q) : r_if_ne cc own ret D E S encR post (f_GG p e D s m args below meth c Q A E S nL) := by
  intro pc L st σ off tgt x hd ht kt kf H locs ls hP hS hl
  exact lv_if_ne hx hb hd ht (fun z => kt z H locs ls hP hS hl) (fun z => kf z H locs ls hP hS hl)
theorem s_if_lt {ρ0 : Type} {ret : Option FieldType} {encR : ρ0 → Option Value} {post : ρ0 → f_Mem → Prop} (hx : p.tables.exec = Jvm.exec) (hb : c.code = cc) (hml : c.maxLocals = nL) (hown : s.vm.findClass own = some m.cls) (hts : ∀ w ∈ tb, w.before args s = true) (hN : f_NW s) (hK : f_K E s) (hI : f_I E S) (hA : ∀ k, k < S.1 → A (f_ad E k)) (hA2 : ∀ q, s.heap.size ≤ q → A q) : r_if_lt cc own ret D E S encR post (f_GG p e D s m args below meth c Q A E S nL) := by
  intro pc L st σ off tgt x hd ht kt kf H locs ls hP hS hl
  exact lv_if_lt hx hb hd ht (fun z => kt z H locs ls hP hS hl) (fun z => kf z H locs ls hP hS hl)
theorem s_if_ge {ρ0 : Type} {ret : Option FieldType} {encR : ρ0 → Option Value} {post : ρ0 → f_Mem → Prop} (hx : p.tables.exec = Jvm.exec) (hb : c.code = cc) (hml : c.maxLocals = nL) (hown : s.vm.findClass own = some m.cls) (hts : ∀ w ∈ tb, w.before args s = true) (hN : f_NW s) (hK : f_K E s) (hI : f_I E S) (hA : ∀ k, k < S.1 → A (f_ad E k)) (hA2 : ∀ q, s.heap.size ≤ q → A q) : r_if_ge cc own ret D E S encR post (f_GG p e D s m args below meth c Q A E S nL) := by
  intro pc L st σ off tgt x hd ht kt kf H locs ls hP hS hl
  exact lv_if_ge hx hb hd ht (fun z => kt z H locs ls hP hS hl) (fun z => kf z H locs ls hP hS hl)
theorem s_if_gt {ρ0 : Type} {ret : Option FieldType} {encR : ρ0 → Option Value} {post : ρ0 → f_Mem → Prop} (hx : p.tables.exec = Jvm.exec) (hb : c.code = cc) (hml : c.maxLocals = nL) (hown : s.vm.findClass own = some m.cls) (hts : ∀ w ∈ tb, w.before args s = true) (hN : f_NW s) (hK : f_K E s) (hI : f_I E S) (hA : ∀ k, k < S.1 → A (f_ad E k)) (hA2 : ∀ q, s.heap.size ≤ q → A q) : r_if_gt cc own ret D E S encR post (f_GG p e D s m args below meth c Q A E S nL) := by
  intro pc L st σ off tgt x hd ht kt kf H locs ls hP hS hl
  exact lv_if_gt hx hb hd ht (fun z => kt z H locs ls hP hS hl) (fun z => kf z H locs ls hP hS hl)
theorem s_if_le {ρ0 : Type} {ret : Option FieldType} {encR : ρ0 → Option Value} {post : ρ0 → f_Mem → Prop} (hx : p.tables.exec = Jvm.exec) (hb : c.code = cc) (hml : c.maxLocals = nL) (hown : s.vm.findClass own = some m.cls) (hts : ∀ w ∈ tb, w.before args s = true) (hN : f_NW s) (hK : f_K E s) (hI : f_I E S) (hA : ∀ k, k < S.1 → A (f_ad E k)) (hA2 : ∀ q, s.heap.size ≤ q → A q) : r_if_le cc own ret D E S encR post (f_GG p e D s m args below meth c Q A E S nL) := by
  intro pc L st σ off tgt x hd ht kt kf H locs ls hP hS hl
  exact lv_if_le hx hb hd ht (fun z => kt z H locs ls hP hS hl) (fun z => kf z H locs ls hP hS hl)
theorem s_goto {ρ0 : Type} {ret : Option FieldType} {encR : ρ0 → Option Value} {post : ρ0 → f_Mem → Prop} (hx : p.tables.exec = Jvm.exec) (hb : c.code = cc) (hml : c.maxLocals = nL) (hown : s.vm.findClass own = some m.cls) (hts : ∀ w ∈ tb, w.before args s = true) (hN : f_NW s) (hK : f_K E s) (hI : f_I E S) (hA : ∀ k, k < S.1 → A (f_ad E k)) (hA2 : ∀ q, s.heap.size ≤ q → A q) : r_goto cc own ret D E S encR post (f_GG p e D s m args below meth c Q A E S nL) := by
  intro pc L st σ off tgt hd ht k H locs ls hP hS hl
  exact lv_goto hx hb hd ht (k H locs ls hP hS hl)
theorem s_ifnull {ρ0 : Type} {ret : Option FieldType} {encR : ρ0 → Option Value} {post : ρ0 → f_Mem → Prop} (hx : p.tables.exec = Jvm.exec) (hb : c.code = cc) (hml : c.maxLocals = nL) (hown : s.vm.findClass own = some m.cls) (hts : ∀ w ∈ tb, w.before args s = true) (hN : f_NW s) (hK : f_K E s) (hI : f_I E S) (hA : ∀ k, k < S.1 → A (f_ad E k)) (hA2 : ∀ q, s.heap.size ≤ q → A q) : r_ifnull cc own ret D E S encR post (f_GG p e D s m args below meth c Q A E S nL) := by
  intro pc L st σ off x hd k H locs ls hP hS hl
  exact lv_ifnull hx hb hd (k H locs ls hP hS hl)
theorem s_ifnullN {ρ0 : Type} {ret : Option FieldType} {encR : ρ0 → Option Value} {post : ρ0 → f_Mem → Prop} (hx : p.tables.exec = Jvm.exec) (hb : c.code = cc) (hml : c.maxLocals = nL) (hown : s.vm.findClass own = some m.cls) (hts : ∀ w ∈ tb, w.before args s = true) (hN : f_NW s) (hK : f_K E s) (hI : f_I E S) (hA : ∀ k, k < S.1 → A (f_ad E k)) (hA2 : ∀ q, s.heap.size ≤ q → A q) : r_ifnullN cc own ret D E S encR post (f_GG p e D s m args below meth c Q A E S nL) := by
  intro pc L st σ off tgt hd ht k H locs ls hP hS hl
  exact lv_ifnullN hx hb hd ht (k H locs ls hP hS hl)
theorem s_ifnonnull {ρ0 : Type} {ret : Option FieldType} {encR : ρ0 → Option Value} {post : ρ0 → f_Mem → Prop} (hx : p.tables.exec = Jvm.exec) (hb : c.code = cc) (hml : c.maxLocals = nL) (hown : s.vm.findClass own = some m.cls) (hts : ∀ w ∈ tb, w.before args s = true) (hN : f_NW s) (hK : f_K E s) (hI : f_I E S) (hA : ∀ k, k < S.1 → A (f_ad E k)) (hA2 : ∀ q, s.heap.size ≤ q → A q) : r_ifnonnull cc own ret D E S encR post (f_GG p e D s m args below meth c Q A E S nL) := by
  intro pc L st σ off tgt x hd ht k H locs ls hP hS hl
  exact lv_ifnonnull hx hb hd ht (k H locs ls hP hS hl)
theorem s_ifnonnullN {ρ0 : Type} {ret : Option FieldType} {encR : ρ0 → Option Value} {post : ρ0 → f_Mem → Prop} (hx : p.tables.exec = Jvm.exec) (hb : c.code = cc) (hml : c.maxLocals = nL) (hown : s.vm.findClass own = some m.cls) (hts : ∀ w ∈ tb, w.before args s = true) (hN : f_NW s) (hK : f_K E s) (hI : f_I E S) (hA : ∀ k, k < S.1 → A (f_ad E k)) (hA2 : ∀ q, s.heap.size ≤ q → A q) : r_ifnonnullN cc own ret D E S encR post (f_GG p e D s m args below meth c Q A E S nL) := by
  intro pc L st σ off hd k H locs ls hP hS hl
  exact lv_ifnonnullN hx hb hd (k H locs ls hP hS hl)
theorem s_tblIn {ρ0 : Type} {ret : Option FieldType} {encR : ρ0 → Option Value} {post : ρ0 → f_Mem → Prop} (hx : p.tables.exec = Jvm.exec) (hb : c.code = cc) (hml : c.maxLocals = nL) (hown : s.vm.findClass own = some m.cls) (hts : ∀ w ∈ tb, w.before args s = true) (hN : f_NW s) (hK : f_K E s) (hI : f_I E S) (hA : ∀ k, k < S.1 → A (f_ad E k)) (hA2 : ∀ q, s.heap.size ≤ q → A q) : r_tblIn cc own ret D E S encR post (f_GG p e D s m args below meth c Q A E S nL) := by
  intro pc L st σ dflt lo hi offs len x off tgt hd h0 h1 h2 h3 k H locs ls hP hS hl
  exact lv_tableIn hx hb hd h0 h1 h2 h3 (k H locs ls hP hS hl)
theorem s_tblOut {ρ0 : Type} {ret : Option FieldType} {encR : ρ0 → Option Value} {post : ρ0 → f_Mem → Prop} (hx : p.tables.exec = Jvm.exec) (hb : c.code = cc) (hml : c.maxLocals = nL) (hown : s.vm.findClass own = some m.cls) (hts : ∀ w ∈ tb, w.before args s = true) (hN : f_NW s) (hK : f_K E s) (hI : f_I E S) (hA : ∀ k, k < S.1 → A (f_ad E k)) (hA2 : ∀ q, s.heap.size ≤ q → A q) : r_tblOut cc own ret D E S encR post (f_GG p e D s m args below meth c Q A E S nL) := by
  intro pc L st σ dflt lo hi offs len x tgt hd h0 h1 k H locs ls hP hS hl
  exact lv_tableOut hx hb hd h0 h1 (k H locs ls hP hS hl)
theorem s_iload_n {ρ0 : Type} {ret : Option FieldType} {encR : ρ0 → Option Value} {post : ρ0 → f_Mem → Prop} (hx : p.tables.exec = Jvm.exec) (hb : c.code = cc) (hml : c.maxLocals = nL) (hown : s.vm.findClass own = some m.cls) (hts : ∀ w ∈ tb, w.before args s = true) (hN : f_NW s) (hK : f_K E s) (hI : f_I E S) (hA : ∀ k, k < S.1 → A (f_ad E k)) (hA2 : ∀ q, s.heap.size ≤ q → A q) : r_iload_n cc own ret D E S encR post (f_GG p e D s m args below meth c Q A E S nL) := by
  intro pc L st σ k x hd h0 k H locs ls hP hS hl
  exact lv_iload_n hx hb hd rfl (hl.at h0) (k H locs ls hP hS hl)
theorem s_iload {ρ0 : Type} {ret : Option FieldType} {encR : ρ0 → Option Value} {post : ρ0 → f_Mem → Prop} (hx : p.tables.exec = Jvm.exec) (hb : c.code = cc) (hml : c.maxLocals = nL) (hown : s.vm.findClass own = some m.cls) (hts : ∀ w ∈ tb, w.before args s = true) (hN : f_NW s) (hK : f_K E s) (hI : f_I E S) (hA : ∀ k, k < S.1 → A (f_ad E k)) (hA2 : ∀ q, s.heap.size ≤ q → A q) : r_iload cc own ret D E S encR post (f_GG p e D s m args below meth c Q A E S nL) := by
  intro pc L st σ k x hd h0 k H locs ls hP hS hl
  exact lv_iload hx hb hd (hl.at h0) (k H locs ls hP hS hl)
theorem s_aload_n {ρ0 : Type} {ret : Option FieldType} {encR : ρ0 → Option Value} {post : ρ0 → f_Mem → Prop} (hx : p.tables.exec = Jvm.exec) (hb : c.code = cc) (hml : c.maxLocals = nL) (hown : s.vm.findClass own = some m.cls) (hts : ∀ w ∈ tb, w.before args s = true) (hN : f_NW s) (hK : f_K E s) (hI : f_I E S) (hA : ∀ k, k < S.1 → A (f_ad E k)) (hA2 : ∀ q, s.heap.size ≤ q → A q) : r_aload_n cc own ret D E S encR post (f_GG p e D s m args below meth c Q A E S nL) := by
  intro pc L st σ k x hd h0 k H locs ls hP hS hl
  exact lv_aload_n hx hb hd rfl (hl.at h0) (k H locs ls hP hS hl)
theorem s_aload {ρ0 : Type} {ret : Option FieldType} {encR : ρ0 → Option Value} {post : ρ0 → f_Mem → Prop} (hx : p.tables.exec = Jvm.exec) (hb : c.code = cc) (hml : c.maxLocals = nL) (hown : s.vm.findClass own = some m.cls) (hts : ∀ w ∈ tb, w.before args s = true) (hN : f_NW s) (hK : f_K E s) (hI : f_I E S) (hA : ∀ k, k < S.1 → A (f_ad E k)) (hA2 : ∀ q, s.heap.size ≤ q → A q) : r_aload cc own ret D E S encR post (f_GG p e D s m args below meth c Q A E S nL) := by
  intro pc L st σ k x hd h0 k H locs ls hP hS hl
  exact lv_aload hx hb hd (hl.at h0) (k H locs ls hP hS hl)
theorem s_aloadN_n {ρ0 : Type} {ret : Option FieldType} {encR : ρ0 → Option Value} {post : ρ0 → f_Mem → Prop} (hx : p.tables.exec = Jvm.exec) (hb : c.code = cc) (hml : c.maxLocals = nL) (hown : s.vm.findClass own = some m.cls) (hts : ∀ w ∈ tb, w.before args s = true) (hN : f_NW s) (hK : f_K E s) (hI : f_I E S) (hA : ∀ k, k < S.1 → A (f_ad E k)) (hA2 : ∀ q, s.heap.size ≤ q → A q) : r_aloadN_n cc own ret D E S encR post (f_GG p e D s m args below meth c Q A E S nL) := by
  intro pc L st σ k hd h0 k H locs ls hP hS hl
  exact lv_aload_nN hx hb hd rfl (hl.at h0) (k H locs ls hP hS hl)
theorem s_aloadN {ρ0 : Type} {ret : Option FieldType} {encR : ρ0 → Option Value} {post : ρ0 → f_Mem → Prop} (hx : p.tables.exec = Jvm.exec) (hb : c.code = cc) (hml : c.maxLocals = nL) (hown : s.vm.findClass own = some m.cls) (hts : ∀ w ∈ tb, w.before args s = true) (hN : f_NW s) (hK : f_K E s) (hI : f_I E S) (hA : ∀ k, k < S.1 → A (f_ad E k)) (hA2 : ∀ q, s.heap.size ≤ q → A q) : r_aloadN cc own ret D E S encR post (f_GG p e D s m args below meth c Q A E S nL) := by
  intro pc L st σ k hd h0 k H locs ls hP hS hl
  exact lv_aloadN hx hb hd (hl.at h0) (k H locs ls hP hS hl)
theorem s_lload_n {ρ0 : Type} {ret : Option FieldType} {encR : ρ0 → Option Value} {post : ρ0 → f_Mem → Prop} (hx : p.tables.exec = Jvm.exec) (hb : c.code = cc) (hml : c.maxLocals = nL) (hown : s.vm.findClass own = some m.cls) (hts : ∀ w ∈ tb, w.before args s = true) (hN : f_NW s) (hK : f_K E s) (hI : f_I E S) (hA : ∀ k, k < S.1 → A (f_ad E k)) (hA2 : ∀ q, s.heap.size ≤ q → A q) : r_lload_n cc own ret D E S encR post (f_GG p e D s m args below meth c Q A E S nL) := by
  intro pc L st σ k x hd h0 k H locs ls hP hS hl
  exact lv_lload_n hx hb hd rfl (hl.at h0) (k H locs ls hP hS hl)
theorem s_lload {ρ0 : Type} {ret : Option FieldType} {encR : ρ0 → Option Value} {post : ρ0 → f_Mem → Prop} (hx : p.tables.exec = Jvm.exec) (hb : c.code = cc) (hml : c.maxLocals = nL) (hown : s.vm.findClass own = some m.cls) (hts : ∀ w ∈ tb, w.before args s = true) (hN : f_NW s) (hK : f_K E s) (hI : f_I E S) (hA : ∀ k, k < S.1 → A (f_ad E k)) (hA2 : ∀ q, s.heap.size ≤ q → A q) : r_lload cc own ret D E S encR post (f_GG p e D s m args below meth c Q A E S nL) := by
  intro pc L st σ k x hd h0 k H locs ls hP hS hl
  exact lv_lload hx hb hd (hl.at h0) (k H locs ls hP hS hl)
theorem s_istore_n {ρ0 : Type} {ret : Option FieldType} {encR : ρ0 → Option Value} {post : ρ0 → f_Mem → Prop} (hx : p.tables.exec = Jvm.exec) (hb : c.code = cc) (hml : c.maxLocals = nL) (hown : s.vm.findClass own = some m.cls) (hts : ∀ w ∈ tb, w.before args s = true) (hN : f_NW s) (hK : f_K E s) (hI : f_I E S) (hA : ∀ k, k < S.1 → A (f_ad E k)) (hA2 : ∀ q, s.heap.size ≤ q → A q) : r_istore_n cc own ret D E S encR post (f_GG p e D s m args below meth c Q A E S nL) := by
  intro pc L st σ k x hd h0 h1 k H locs ls hP hS hl
  refine lv_istore_n hx hb hd rfl hl.1 (by rw [← hl.2]; exact h0) rfl (fun ls2 hl2 => ?_)
  exact k H locs ls2 hP hS (f_ls_set hl.2 h1 hl2)
theorem s_istore {ρ0 : Type} {ret : Option FieldType} {encR : ρ0 → Option Value} {post : ρ0 → f_Mem → Prop} (hx : p.tables.exec = Jvm.exec) (hb : c.code = cc) (hml : c.maxLocals = nL) (hown : s.vm.findClass own = some m.cls) (hts : ∀ w ∈ tb, w.before args s = true) (hN : f_NW s) (hK : f_K E s) (hI : f_I E S) (hA : ∀ k, k < S.1 → A (f_ad E k)) (hA2 : ∀ q, s.heap.size ≤ q → A q) : r_istore cc own ret D E S encR post (f_GG p e D s m args below meth c Q A E S nL) := by
  intro pc L st σ k x hd h0 h1 k H locs ls hP hS hl
  refine lv_istore hx hb hd hl.1 (by rw [← hl.2]; exact h0) rfl (fun ls2 hl2 => ?_)
  exact k H locs ls2 hP hS (f_ls_set hl.2 h1 hl2)
theorem s_astore_n {ρ0 : Type} {ret : Option FieldType} {encR : ρ0 → Option Value} {post : ρ0 → f_Mem → Prop} (hx : p.tables.exec = Jvm.exec) (hb : c.code = cc) (hml : c.maxLocals = nL) (hown : s.vm.findClass own = some m.cls) (hts : ∀ w ∈ tb, w.before args s = true) (hN : f_NW s) (hK : f_K E s) (hI : f_I E S) (hA : ∀ k, k < S.1 → A (f_ad E k)) (hA2 : ∀ q, s.heap.size ≤ q → A q) : r_astore_n cc own ret D E S encR post (f_GG p e D s m args below meth c Q A E S nL) := by
  intro pc L st σ k x hd h0 h1 k H locs ls hP hS hl
  refine lv_astore_n hx hb hd rfl hl.1 (by rw [← hl.2]; exact h0) rfl (fun ls2 hl2 => ?_)
  exact k H locs ls2 hP hS (f_ls_set hl.2 h1 hl2)
theorem s_astore {ρ0 : Type} {ret : Option FieldType} {encR : ρ0 → Option Value} {post : ρ0 → f_Mem → Prop} (hx : p.tables.exec = Jvm.exec) (hb : c.code = cc) (hml : c.maxLocals = nL) (hown : s.vm.findClass own = some m.cls) (hts : ∀ w ∈ tb, w.before args s = true) (hN : f_NW s) (hK : f_K E s) (hI : f_I E S) (hA : ∀ k, k < S.1 → A (f_ad E k)) (hA2 : ∀ q, s.heap.size ≤ q → A q) : r_astore cc own ret D E S encR post (f_GG p e D s m args below meth c Q A E S nL) := by
  intro pc L st σ k x hd h0 h1 k H locs ls hP hS hl
  refine lv_astore hx hb hd hl.1 (by rw [← hl.2]; exact h0) rfl (fun ls2 hl2 => ?_)
  exact k H locs ls2 hP hS (f_ls_set hl.2 h1 hl2)
theorem s_astoreN_n {ρ0 : Type} {ret : Option FieldType} {encR : ρ0 → Option Value} {post : ρ0 → f_Mem → Prop} (hx : p.tables.exec = Jvm.exec) (hb : c.code = cc) (hml : c.maxLocals = nL) (hown : s.vm.findClass own = some m.cls) (hts : ∀ w ∈ tb, w.before args s = true) (hN : f_NW s) (hK : f_K E s) (hI : f_I E S) (hA : ∀ k, k < S.1 → A (f_ad E k)) (hA2 : ∀ q, s.heap.size ≤ q → A q) : r_astoreN_n cc own ret D E S encR post (f_GG p e D s m args below meth c Q A E S nL) := by
  intro pc L st σ k hd h0 h1 k H locs ls hP hS hl
  refine lv_astore_nN hx hb hd rfl hl.1 (by rw [← hl.2]; exact h0) rfl (fun ls2 hl2 => ?_)
  exact k H locs ls2 hP hS (f_ls_set hl.2 h1 hl2)
theorem s_astoreN {ρ0 : Type} {ret : Option FieldType} {encR : ρ0 → Option Value} {post : ρ0 → f_Mem → Prop} (hx : p.tables.exec = Jvm.exec) (hb : c.code = cc) (hml : c.maxLocals = nL) (hown : s.vm.findClass own = some m.cls) (hts : ∀ w ∈ tb, w.before args s = true) (hN : f_NW s) (hK : f_K E s) (hI : f_I E S) (hA : ∀ k, k < S.1 → A (f_ad E k)) (hA2 : ∀ q, s.heap.size ≤ q → A q) : r_astoreN cc own ret D E S encR post (f_GG p e D s m args below meth c Q A E S nL) := by
  intro pc L st σ k hd h0 h1 k H locs ls hP hS hl
  refine lv_astoreN hx hb hd hl.1 (by rw [← hl.2]; exact h0) rfl (fun ls2 hl2 => ?_)
  exact k H locs ls2 hP hS (f_ls_set hl.2 h1 hl2)
theorem s_lstore_n {ρ0 : Type} {ret : Option FieldType} {encR : ρ0 → Option Value} {post : ρ0 → f_Mem → Prop} (hx : p.tables.exec = Jvm.exec) (hb : c.code = cc) (hml : c.maxLocals = nL) (hown : s.vm.findClass own = some m.cls) (hts : ∀ w ∈ tb, w.before args s = true) (hN : f_NW s) (hK : f_K E s) (hI : f_I E S) (hA : ∀ k, k < S.1 → A (f_ad E k)) (hA2 : ∀ q, s.heap.size ≤ q → A q) : r_lstore_n cc own ret D E S encR post (f_GG p e D s m args below meth c Q A E S nL) := by
  intro pc L st σ k x hd h0 h1 k H locs ls hP hS hl
  refine lv_lstore_n hx hb hd rfl hl.1 (by rw [← hl.2]; exact h0) rfl (fun ls2 hl2 => ?_)
  exact k H locs ls2 hP hS (f_ls_set2 hl.2 h1 hl2)
theorem s_lstore {ρ0 : Type} {ret : Option FieldType} {encR : ρ0 → Option Value} {post : ρ0 → f_Mem → Prop} (hx : p.tables.exec = Jvm.exec) (hb : c.code = cc) (hml : c.maxLocals = nL) (hown : s.vm.findClass own = some m.cls) (hts : ∀ w ∈ tb, w.before args s = true) (hN : f_NW s) (hK : f_K E s) (hI : f_I E S) (hA : ∀ k, k < S.1 → A (f_ad E k)) (hA2 : ∀ q, s.heap.size ≤ q → A q) : r_lstore cc own ret D E S encR post (f_GG p e D s m args below meth c Q A E S nL) := by
  intro pc L st σ k x hd h0 h1 k H locs ls hP hS hl
  refine lv_lstore hx hb hd hl.1 (by rw [← hl.2]; exact h0) rfl (fun ls2 hl2 => ?_)
  exact k H locs ls2 hP hS (f_ls_set2 hl.2 h1 hl2)
theorem s_iinc {ρ0 : Type} {ret : Option FieldType} {encR : ρ0 → Option Value} {post : ρ0 → f_Mem → Prop} (hx : p.tables.exec = Jvm.exec) (hb : c.code = cc) (hml : c.maxLocals = nL) (hown : s.vm.findClass own = some m.cls) (hts : ∀ w ∈ tb, w.before args s = true) (hN : f_NW s) (hK : f_K E s) (hI : f_I E S) (hA : ∀ k, k < S.1 → A (f_ad E k)) (hA2 : ∀ q, s.heap.size ≤ q → A q) : r_iinc cc own ret D E S encR post (f_GG p e D s m args below meth c Q A E S nL) := by
  intro pc L st σ k n x v hd h0 h1 h2 kk0 H locs ls hP hS hl
  obtain ⟨q, hq⟩ := List.getElem?_of_mem ((f_lv_mem L 0 (k, .int x)).mpr ⟨k, by simp, h0⟩)
  have hlt : k < nL := by rw [← hl.2]; exact (List.getElem?_eq_some_iff.mp h0).1
  refine lv_iinc hx hb hd hl.1 hq h1 hlt rfl (fun ls2 hl2 => ?_)
  exact kk0 H locs ls2 hP hS (f_ls_set hl.2 h2 hl2)
theorem s_getI {ρ0 : Type} {ret : Option FieldType} {encR : ρ0 → Option Value} {post : ρ0 → f_Mem → Prop} (hx : p.tables.exec = Jvm.exec) (hb : c.code = cc) (hml : c.maxLocals = nL) (hown : s.vm.findClass own = some m.cls) (hts : ∀ w ∈ tb, w.before args s = true) (hN : f_NW s) (hK : f_K E s) (hI : f_I E S) (hA : ∀ k, k < S.1 → A (f_ad E k)) (hA2 : ∀ q, s.heap.size ≤ q → A q) : r_getI cc own ret D E S encR post (f_GG p e D s m args below meth c Q A E S nL) := by
  intro pc L st σ i ci k n fs hd h0 h1 h2 h3 kk0 H locs ls hP hS hl
  obtain ⟨C, T, N, g1, g2, g3, g4⟩ := h0
  have he := f_wl_at E S σ h1
  rw [f_cell_o h2] at he
  have hv : (f_fld (f_ad E) (σ n) 0 fs)[k]? = some (.int (σ n k)) := by rw [f_fld_get, h3]; simp
  rcases g4 with g4 | ⟨host, g4⟩
  · exact va_get hx hb hts g2 hown hK hP n he g1 k g3 (hts _ g4) (fun _ h9 => h9) hv hd (kk0 H locs ls hP hS hl)
  · exact va_getN hx hb hts g2 hown hK hP n he g1 k g3 (hN.use _ g4) (fun _ h9 => h9) hv hd (kk0 H locs ls hP hS hl)
theorem s_getR {ρ0 : Type} {ret : Option FieldType} {encR : ρ0 → Option Value} {post : ρ0 → f_Mem → Prop} (hx : p.tables.exec = Jvm.exec) (hb : c.code = cc) (hml : c.maxLocals = nL) (hown : s.vm.findClass own = some m.cls) (hts : ∀ w ∈ tb, w.before args s = true) (hN : f_NW s) (hK : f_K E s) (hI : f_I E S) (hA : ∀ k, k < S.1 → A (f_ad E k)) (hA2 : ∀ q, s.heap.size ≤ q → A q) : r_getR cc own ret D E S encR post (f_GG p e D s m args below meth c Q A E S nL) := by
  intro pc L st σ i ci k n r fs hd h0 h1 h2 h3 kk0 H locs ls hP hS hl
  obtain ⟨C, T, N, g1, g2, g3, g4⟩ := h0
  have he := f_wl_at E S σ h1
  rw [f_cell_o h2] at he
  have hv : (f_fld (f_ad E) (σ n) 0 fs)[k]? = some (.ref (f_ad E r)) := by rw [f_fld_get, h3]; simp
  rcases g4 with g4 | ⟨host, g4⟩
  · exact va_get hx hb hts g2 hown hK hP n he g1 k g3 (hts _ g4) (fun _ h9 => h9) hv hd (kk0 H locs ls hP hS hl)
  · exact va_getN hx hb hts g2 hown hK hP n he g1 k g3 (hN.use _ g4) (fun _ h9 => h9) hv hd (kk0 H locs ls hP hS hl)
theorem s_getN {ρ0 : Type} {ret : Option FieldType} {encR : ρ0 → Option Value} {post : ρ0 → f_Mem → Prop} (hx : p.tables.exec = Jvm.exec) (hb : c.code = cc) (hml : c.maxLocals = nL) (hown : s.vm.findClass own = some m.cls) (hts : ∀ w ∈ tb, w.before args s = true) (hN : f_NW s) (hK : f_K E s) (hI : f_I E S) (hA : ∀ k, k < S.1 → A (f_ad E k)) (hA2 : ∀ q, s.heap.size ≤ q → A q) : r_getN cc own ret D E S encR post (f_GG p e D s m args below meth c Q A E S nL) := by
  intro pc L st σ i ci k n fs hd h0 h1 h2 h3 kk0 H locs ls hP hS hl
  obtain ⟨C, T, N, g1, g2, g3, g4⟩ := h0
  have he := f_wl_at E S σ h1
  rw [f_cell_o h2] at he
  have hv : (f_fld (f_ad E) (σ n) 0 fs)[k]? = some (.null) := by rw [f_fld_get, h3]; simp
  rcases g4 with g4 | ⟨host, g4⟩
  · exact va_get hx hb hts g2 hown hK hP n he g1 k g3 (hts _ g4) (fun _ h9 => h9) hv hd (kk0 H locs ls hP hS hl)
  · exact va_getN hx hb hts g2 hown hK hP n he g1 k g3 (hN.use _ g4) (fun _ h9 => h9) hv hd (kk0 H locs ls hP hS hl)
theorem s_put {ρ0 : Type} {ret : Option FieldType} {encR : ρ0 → Option Value} {post : ρ0 → f_Mem → Prop} (hx : p.tables.exec = Jvm.exec) (hb : c.code = cc) (hml : c.maxLocals = nL) (hown : s.vm.findClass own = some m.cls) (hts : ∀ w ∈ tb, w.before args s = true) (hN : f_NW s) (hK : f_K E s) (hI : f_I E S) (hA : ∀ k, k < S.1 → A (f_ad E k)) (hA2 : ∀ q, s.heap.size ≤ q → A q) : r_put cc own ret D E S encR post (f_GG p e D s m args below meth c Q A E S nL) := by
  intro pc L st σ i ci k n fs v hd h0 h1 h2 h3 kk0 H locs ls hP hS hl
  obtain ⟨C, T, N, g1, g2, g3, g4, ⟨ty0, g5⟩, g6, g7, g8⟩ := h0
  have he := f_wl_at E S σ h1
  rw [f_cell_o h2] at he
  have hD := f_D hI hA σ
  have hlen : k < (f_fld (f_ad E) (σ n) 0 fs).length := by rw [f_fld_len]; exact (List.getElem?_eq_some_iff.mp h3).1
  have hset : (f_wl E S σ).set n (f_ad E n, .inr (ci, (f_fld (f_ad E) (σ n) 0 fs).set k (.int v))) = f_wl E S (m_set σ n k v) := by
    refine f_wl_set h1 ?_
    rw [f_cell_o h2, f_fld_set _ _ _ _ _ h3]
    unfold m_row
    rw [if_pos rfl]
  rcases g4 with g4 | ⟨host, g4⟩
  · refine va_put hx hb hts g2 ty0 g5 g6 hown hK hP hD hS n he g1 k g3 (hts _ g4) (fun _ h9 => h9) g7 g8 rfl rfl hlen hd (fun H1 locs1 hP1 _ hS1 => ?_)
    rw [hset] at hP1
    exact kk0 H1 locs1 ls hP1 hS1 hl
  · refine va_putN hx hb hts g2 ty0 g5 g6 hown hK hP hD hS n he g1 k g3 (hN.use _ g4) (fun _ h9 => h9) g7 g8 rfl rfl hlen hd (fun H1 locs1 hP1 _ hS1 => ?_)
    rw [hset] at hP1
    exact kk0 H1 locs1 ls hP1 hS1 hl
theorem s_ald {ρ0 : Type} {ret : Option FieldType} {encR : ρ0 → Option Value} {post : ρ0 → f_Mem → Prop} (hx : p.tables.exec = Jvm.exec) (hb : c.code = cc) (hml : c.maxLocals = nL) (hown : s.vm.findClass own = some m.cls) (hts : ∀ w ∈ tb, w.before args s = true) (hN : f_NW s) (hK : f_K E s) (hI : f_I E S) (hA : ∀ k, k < S.1 → A (f_ad E k)) (hA2 : ∀ q, s.heap.size ≤ q → A q) : r_ald cc own ret D E S encR post (f_GG p e D s m args below meth c Q A E S nL) := by
  intro pc L st σ n len i hd h0 h1 h2 kk0 H locs ls hP hS hl
  have he := f_wl_at E S σ h0
  rw [f_cell_i h1] at he
  exact va_iald hx hb hK hP n 0 he rfl h2 hd (kk0 H locs ls hP hS hl)
theorem s_ast {ρ0 : Type} {ret : Option FieldType} {encR : ρ0 → Option Value} {post : ρ0 → f_Mem → Prop} (hx : p.tables.exec = Jvm.exec) (hb : c.code = cc) (hml : c.maxLocals = nL) (hown : s.vm.findClass own = some m.cls) (hts : ∀ w ∈ tb, w.before args s = true) (hN : f_NW s) (hK : f_K E s) (hI : f_I E S) (hA : ∀ k, k < S.1 → A (f_ad E k)) (hA2 : ∀ q, s.heap.size ≤ q → A q) : r_ast cc own ret D E S encR post (f_GG p e D s m args below meth c Q A E S nL) := by
  intro pc L st σ n len i v hd h0 h1 h2 kk0 H locs ls hP hS hl
  have he := f_wl_at E S σ h0
  rw [f_cell_i h1] at he
  refine va_iast hx hb hK hP (f_D hI hA σ) hS n 0 he rfl h2 hd (fun H1 locs1 hP1 _ hS1 => ?_)
  rw [f_wl_set (f := upd (σ n) i.toNatClampNeg v) h0 (by rw [f_cell_i h1]; unfold m_row; rw [if_pos rfl])] at hP1
  exact kk0 H1 locs1 ls hP1 hS1 hl
theorem s_alenI {ρ0 : Type} {ret : Option FieldType} {encR : ρ0 → Option Value} {post : ρ0 → f_Mem → Prop} (hx : p.tables.exec = Jvm.exec) (hb : c.code = cc) (hml : c.maxLocals = nL) (hown : s.vm.findClass own = some m.cls) (hts : ∀ w ∈ tb, w.before args s = true) (hN : f_NW s) (hK : f_K E s) (hI : f_I E S) (hA : ∀ k, k < S.1 → A (f_ad E k)) (hA2 : ∀ q, s.heap.size ≤ q → A q) : r_alenI cc own ret D E S encR post (f_GG p e D s m args below meth c Q A E S nL) := by
  intro pc L st σ n len hd h0 h1 kk0 H locs ls hP hS hl
  have he := f_wl_at E S σ h0
  rw [f_cell_i h1] at he
  exact va_alen hx hb hK hP n 0 he (ty := .int) rfl rfl hd (kk0 H locs ls hP hS hl)
theorem s_alenQ {ρ0 : Type} {ret : Option FieldType} {encR : ρ0 → Option Value} {post : ρ0 → f_Mem → Prop} (hx : p.tables.exec = Jvm.exec) (hb : c.code = cc) (hml : c.maxLocals = nL) (hown : s.vm.findClass own = some m.cls) (hts : ∀ w ∈ tb, w.before args s = true) (hN : f_NW s) (hK : f_K E s) (hI : f_I E S) (hA : ∀ k, k < S.1 → A (f_ad E k)) (hA2 : ∀ q, s.heap.size ≤ q → A q) : r_alenQ cc own ret D E S encR post (f_GG p e D s m args below meth c Q A E S nL) := by
  intro pc L st σ n len hd h0 h1 kk0 H locs ls hP hS hl
  have he := f_wl_at E S σ h0
  rw [f_cell_q h1] at he
  exact va_alen hx hb hK hP n 1 he (ty := .object RX2) rfl rfl hd (kk0 H locs ls hP hS hl)
theorem s_aldQ {ρ0 : Type} {ret : Option FieldType} {encR : ρ0 → Option Value} {post : ρ0 → f_Mem → Prop} (hx : p.tables.exec = Jvm.exec) (hb : c.code = cc) (hml : c.maxLocals = nL) (hown : s.vm.findClass own = some m.cls) (hts : ∀ w ∈ tb, w.before args s = true) (hN : f_NW s) (hK : f_K E s) (hI : f_I E S) (hA : ∀ k, k < S.1 → A (f_ad E k)) (hA2 : ∀ q, s.heap.size ≤ q → A q) : r_aldQ cc own ret D E S encR post (f_GG p e D s m args below meth c Q A E S nL) := by
  intro pc L st σ n len i hd h0 h1 h2 kk0 H locs ls hP hS hl
  have he := f_wl_at E S σ h0
  rw [f_cell_q h1] at he
  exact va_aldq hx hb hK hP n 1 (C := RX2) he rfl h2 hd (kk0 H locs ls hP hS hl)
theorem s_astQ {ρ0 : Type} {ret : Option FieldType} {encR : ρ0 → Option Value} {post : ρ0 → f_Mem → Prop} (hx : p.tables.exec = Jvm.exec) (hb : c.code = cc) (hml : c.maxLocals = nL) (hown : s.vm.findClass own = some m.cls) (hts : ∀ w ∈ tb, w.before args s = true) (hN : f_NW s) (hK : f_K E s) (hI : f_I E S) (hA : ∀ k, k < S.1 → A (f_ad E k)) (hA2 : ∀ q, s.heap.size ≤ q → A q) : r_astQ cc own ret D E S encR post (f_GG p e D s m args below meth c Q A E S nL) := by
  intro pc L st σ n len r fs i hd h0 h1 h2 h3 h4 h5 kk0 H locs ls hP hS hl
  have he := f_wl_at E S σ h0
  rw [f_cell_q h1] at he
  have hv := f_wl_at E S σ h3
  rw [f_cell_o h4] at hv
  refine va_astq (r := (RX2, TX2, 5)) hx hb hK hP (f_D hI hA σ) hS n 1 r 2 he rfl hv rfl h2 hd (fun H1 locs1 hP1 _ hS1 => ?_)
  rw [f_wl_set (f := upd (σ n) i.toNatClampNeg (Int32.ofNat r)) h0 (by
    rw [f_cell_q h1]; unfold m_row; rw [if_pos rfl]
    congr 2; congr 1; congr 1; congr 1; congr 1; congr 1
    funext j
    unfold upd va_up
    by_cases hj : j = i.toNatClampNeg
    · rw [if_pos hj, if_pos hj, Int32.toNatClampNeg_ofNat_of_lt h5]
    · rw [if_neg hj, if_neg hj])] at hP1
  exact kk0 H1 locs1 ls hP1 hS1 hl
theorem s_max {ρ0 : Type} {ret : Option FieldType} {encR : ρ0 → Option Value} {post : ρ0 → f_Mem → Prop} (hx : p.tables.exec = Jvm.exec) (hb : c.code = cc) (hml : c.maxLocals = nL) (hown : s.vm.findClass own = some m.cls) (hts : ∀ w ∈ tb, w.before args s = true) (hN : f_NW s) (hK : f_K E s) (hI : f_I E S) (hA : ∀ k, k < S.1 → A (f_ad E k)) (hA2 : ∀ q, s.heap.size ≤ q → A q) : r_max cc own ret D E S encR post (f_GG p e D s m args below meth c Q A E S nL) := by
  intro pc L st σ i x y hd h0 h1 h2 kk0 H locs ls hP hS hl
  have h3 : (st.map fun v => v.category).sum + 13 ≤ (f_rm D).locals := by show _ ≤ 60 * D; omega
  exact va_mmax hx hb (hml.trans hl.1.1.symm) hown (hts _ h0) (hts _ tb_max1) (hts _ tb_math) (hts _ tb_max2) h1 h3 (Nat.zero_le _) (Nat.zero_le _) hd (kk0 H locs ls hP hS hl)
theorem s_min {ρ0 : Type} {ret : Option FieldType} {encR : ρ0 → Option Value} {post : ρ0 → f_Mem → Prop} (hx : p.tables.exec = Jvm.exec) (hb : c.code = cc) (hml : c.maxLocals = nL) (hown : s.vm.findClass own = some m.cls) (hts : ∀ w ∈ tb, w.before args s = true) (hN : f_NW s) (hK : f_K E s) (hI : f_I E S) (hA : ∀ k, k < S.1 → A (f_ad E k)) (hA2 : ∀ q, s.heap.size ≤ q → A q) : r_min cc own ret D E S encR post (f_GG p e D s m args below meth c Q A E S nL) := by
  intro pc L st σ i x y hd h0 h1 h2 kk0 H locs ls hP hS hl
  have h3 : (st.map fun v => v.category).sum + 13 ≤ (f_rm D).locals := by show _ ≤ 60 * D; omega
  exact va_mmin hx hb (hml.trans hl.1.1.symm) hown (hts _ h0) (hts _ tb_min1) (hts _ tb_math) (hts _ tb_min2) h1 h3 (Nat.zero_le _) (Nat.zero_le _) hd (kk0 H locs ls hP hS hl)
theorem s_copy {ρ0 : Type} {ret : Option FieldType} {encR : ρ0 → Option Value} {post : ρ0 → f_Mem → Prop} (hx : p.tables.exec = Jvm.exec) (hb : c.code = cc) (hml : c.maxLocals = nL) (hown : s.vm.findClass own = some m.cls) (hts : ∀ w ∈ tb, w.before args s = true) (hN : f_NW s) (hK : f_K E s) (hI : f_I E S) (hA : ∀ k, k < S.1 → A (f_ad E k)) (hA2 : ∀ q, s.heap.size ≤ q → A q) : r_copy cc own ret D E S encR post (f_GG p e D s m args below meth c Q A E S nL) := by
  intro pc L st σ i n0 n1 l0 l1 sp dp n hd h0 h1 h2 h3 h4 h5 h6 h7 h8 h9 h10 h11 kk0 H locs ls hP hS hl
  have he0 := f_wl_at E S σ h3
  rw [f_cell_i h5] at he0
  have he1 := f_wl_at E S σ h4
  rw [f_cell_i h6] at he1
  have hloc : (st.map fun v => v.category).sum + (nativeFrameWords "java/lang/System" "arraycopy" 5 + 11) ≤ (f_rm D).locals := by
    have h13 : nativeFrameWords "java/lang/System" "arraycopy" 5 ≤ 30 := by decide +kernel
    show _ ≤ 60 * D
    omega
  refine va_copyi hx hb (hml.trans hl.1.1.symm) hown (hts _ h0) (hts _ tb_copy1) (hts _ tb_copy2) (hts _ tb_sys) hK hP (f_D hI hA σ) hS n0 n1 0 0 (ty := .int) he0 he1 rfl rfl rfl h7 h8 h9 h10 h11 (fun _ _ => rfl) h1 hloc hd (fun H1 locs1 hP1 _ hS1 => ?_)
  rw [f_wl_set (f := va_cpy (σ n0) (σ n1) sp.toNatClampNeg dp.toNatClampNeg n.toNatClampNeg) h4 (by rw [f_cell_i h6]; unfold m_row; rw [if_pos rfl])] at hP1
  exact kk0 H1 locs1 ls hP1 hS1 hl
theorem s_callV {ρ0 : Type} {ret : Option FieldType} {encR : ρ0 → Option Value} {post : ρ0 → f_Mem → Prop} (hx : p.tables.exec = Jvm.exec) (hb : c.code = cc) (hml : c.maxLocals = nL) (hown : s.vm.findClass own = some m.cls) (hts : ∀ w ∈ tb, w.before args s = true) (hN : f_NW s) (hK : f_K E s) (hI : f_I E S) (hA : ∀ k, k < S.1 → A (f_ad E k)) (hA2 : ∀ q, s.heap.size ≤ q → A q) : r_callV cc own ret D E S encR post (f_GG p e D s m args below meth c Q A E S nL) := by
  intro ρ pc L rest As σ i ci n d fs Y enc post2 hd h0 h1 h2 h3 hM9 h5 h6 kk0 H locs ls hP hS hl
  have he := f_wl_at E S σ h1
  rw [f_cell_o h2] at he
  obtain ⟨lc, li, ls9, lk, lh⟩ := h0
  obtain ⟨q, hq, hq2⟩ := Option.map_eq_some_iff.mp h3
  have hrec := va_recv hK hP hq he
  rw [hq2] at hrec
  have hroom : 2 * (F0 m pc ls (As.reverse ++ .ref (f_ad E n) :: rest)).monitorRoom + (rest.map fun v => v.category).sum ≤ 8 := lv_room h6
  have hpre : PreV s H Y.1.cls (f_ad E n) (f_Pc E S (.ref (f_ad E n) :: As) σ H.size) As := ⟨f_FB, hrec, fun U hU hW => ⟨rfl, by rw [hU], by rw [hU]; exact hP, va_K.moved hW.alike hK, hN.warm hW, hI⟩⟩
  have hA1 : ∀ q, f_A E S H.size q → A q := fun q h => by
    rcases h with ⟨k9, h8, rfl⟩ | h
    · exact hA k9 h8
    · exact hA2 q (Nat.le_trans hS.1 h)
  rcases lk with lk | ⟨host, lk⟩
  · exact f_call (va_runV (C := Y.1.cls) ⟨hx, hb, hml, hown, hts⟩ (hM9 H.size) ⟨f_pay hts lc lh h5 (hts _ lk), hts _ li, hts _ ls9⟩ hpre rfl rfl hl.1.1 rfl hroom hd ⟨Nat.zero_le _, Nat.zero_le _⟩) hS (fun q _ h => hA1 q h) hA1 (fun r u H1 locs1 hp hP1 hS1 => kk0 r u hp H1 locs1 ls hP1 hS1 hl)
  · exact f_call (va_runVN (C := Y.1.cls) ⟨hx, hb, hml, hown, hts⟩ (hM9 H.size) ⟨f_payN hts lc lh h5 (hN _ lk), hts _ li, hts _ ls9⟩ hpre rfl rfl hl.1.1 rfl hroom hd ⟨Nat.zero_le _, Nat.zero_le _⟩) hS (fun q _ h => hA1 q h) hA1 (fun r u H1 locs1 hp hP1 hS1 => kk0 r u hp H1 locs1 ls hP1 hS1 hl)
theorem s_callS {ρ0 : Type} {ret : Option FieldType} {encR : ρ0 → Option Value} {post : ρ0 → f_Mem → Prop} (hx : p.tables.exec = Jvm.exec) (hb : c.code = cc) (hml : c.maxLocals = nL) (hown : s.vm.findClass own = some m.cls) (hts : ∀ w ∈ tb, w.before args s = true) (hN : f_NW s) (hK : f_K E s) (hI : f_I E S) (hA : ∀ k, k < S.1 → A (f_ad E k)) (hA2 : ∀ q, s.heap.size ≤ q → A q) : r_callS cc own ret D E S encR post (f_GG p e D s m args below meth c Q A E S nL) := by
  intro ρ pc L rest As σ i d Y enc post2 hd h0 hM9 h2 h3 kk0 H locs ls hP hS hl
  obtain ⟨lc, li, lk, lh⟩ := h0
  have hroom : 2 * (F0 m pc ls (As.reverse ++ rest)).monitorRoom + (rest.map fun v => v.category).sum ≤ 8 := lv_room h3
  have hpre : PreS s H (f_Pc E S As σ H.size) As := ⟨f_FB, fun U hU hW => ⟨rfl, by rw [hU], by rw [hU]; exact hP, va_K.moved hW.alike hK, hN.warm hW, hI⟩⟩
  have hA1 : ∀ q, f_A E S H.size q → A q := fun q h => by
    rcases h with ⟨k9, h8, rfl⟩ | h
    · exact hA k9 h8
    · exact hA2 q (Nat.le_trans hS.1 h)
  rcases lk with lk | ⟨host, lk⟩
  · exact f_call (va_runS ⟨hx, hb, hml, hown, hts⟩ (hM9 H.size) ⟨f_pay hts lc lh h2 (hts _ lk), hts _ li⟩ hpre rfl rfl hl.1.1 rfl hroom hd ⟨Nat.zero_le _, Nat.zero_le _⟩) hS (fun q _ h => hA1 q h) hA1 (fun r u H1 locs1 hp hP1 hS1 => kk0 r u hp H1 locs1 ls hP1 hS1 hl)
  · exact f_call (va_runSN ⟨hx, hb, hml, hown, hts⟩ (hM9 H.size) ⟨f_payN hts lc lh h2 (hN _ lk), hts _ li, trivial⟩ hpre rfl rfl hl.1.1 rfl hroom hd ⟨Nat.zero_le _, Nat.zero_le _⟩) hS (fun q _ h => hA1 q h) hA1 (fun r u H1 locs1 hp hP1 hS1 => kk0 r u hp H1 locs1 ls hP1 hS1 hl)
end FLAT

def f_L0 (nL : Nat) (av : List Value) : f_L := (av.flatMap (fun v => if v.category = 2 then [some v, none] else [some v])) ++ List.replicate (nL - (lg_sl av).length) none
theorem f_L0_mem : ∀ (av : List Value) (i : Nat) (q : Nat × Value) (k : Nat), q ∈ f_lv i (av.flatMap (fun v => if v.category = 2 then [some v, none] else [some v]) ++ List.replicate k none) → q ∈ lv_args i av
  | [], i, q, k => by
    intro h
    obtain ⟨j, -, h2⟩ := (f_lv_mem _ _ _).mp h
    simp only [List.flatMap_nil, List.nil_append] at h2
    have := List.eq_of_mem_replicate (List.mem_of_getElem? h2)
    cases this
  | v :: t, i, q, k => by
    intro h
    simp only [List.flatMap_cons, List.append_assoc] at h
    simp only [lv_args]
    by_cases hv : v.category = 2
    · rw [if_pos hv] at h ⊢
      simp only [List.cons_append, List.nil_append, f_lv, List.mem_cons] at h
      rcases h with h | h
      · rw [h]; exact List.mem_cons_self
      · exact List.mem_cons_of_mem _ (f_L0_mem t (i + 2) q k h)
    · rw [if_neg hv] at h ⊢
      simp only [List.cons_append, List.nil_append, f_lv, List.mem_cons] at h
      rcases h with h | h
      · rw [h]; exact List.mem_cons_self
      · exact List.mem_cons_of_mem _ (f_L0_mem t (i + 1) q k h)
theorem f_lg_len : ∀ av : List Value, (av.flatMap (fun v => if v.category = 2 then [(some v : Option Value), none] else [some v])).length = (lg_sl av).length
  | [] => rfl
  | v :: t => by
    have h := f_lg_len t
    simp only [List.flatMap_cons, List.length_append, lg_sl] at h ⊢
    rw [h]
    congr 1
    rcases lv_cat v with hv | hv <;> simp [hv]
/-- a contract out of a walk with the rules alone -/
theorem FM.intro {ρ0 : Type} {E : f_E} {S : f_S} {Y : f_Y} {D : Nat} {av : List Value} {σ : f_Mem} {encR : ρ0 → Option Value} {post : ρ0 → f_Mem → Prop} (hy : plainName Y.1.cls = true) (hn : (lg_sl av).length ≤ Y.2.2.1) {L0 : f_L} (hL0 : f_L0 Y.2.2.1 av = L0)
    (h : ∀ G : f_G, Rul Y.2.1 Y.1.cls Y.2.2.2 D E S encR post G → G 0 L0 [] σ) : FM E S Y D av σ encR post := by
  intro sz
  refine Met.ofW (cc := Y.2.1) (maxL := Y.2.2.1) (ret := Y.2.2.2) hy rfl ?_
  intro p e s m args below meth c s₁ B hml hv
  obtain ⟨rfl, rfl, hP, hK, hN, hI⟩ := hv
  have hx := B.exec
  have hb := B.bytes
  have hr := B.returns
  have hts0 := atoms_spec (ws := Cond.code Y.1 Y.2.1 Y.2.2.1 Y.2.2.2 :: tb) B.pre
  have hts : ∀ w ∈ tb, w.before av.toArray s = true := fun w hw => hts0 w (List.mem_cons_of_mem _ hw)
  have hown : s.vm.findClass Y.1.cls = some m.cls := findClass_of_methodNamed B.named
  have hlocks := B.notSynchronized
  have hA : ∀ k, k < S.1 → f_A E S s.heap.size (f_ad E k) := fun k hk => Or.inl ⟨k, hk, rfl⟩
  have hA2 : ∀ q, s.heap.size ≤ q → f_A E S s.heap.size q := fun q hq => Or.inr hq
  rw [lg_entry_eq]
  have hl := lv_entry av hn
  have hls : f_ls ((lg_sl av ++ List.replicate (Y.2.2.1 - (lg_sl av).length) Slot.unset).toArray) Y.2.2.1 L0 := by
    subst hL0
    refine ⟨⟨hl.1, hl.2.1, fun q hq => hl.2.2 q (f_L0_mem av 0 q _ hq)⟩, ?_⟩
    unfold f_L0
    rw [List.length_append, List.length_replicate, f_lg_len]
    omega
  refine h (f_GG p e D s m av.toArray below meth c (MQ below (f_Q E S encR post (f_A E S s.heap.size)) av.toArray s 0 0 (f_A E S s.heap.size)) (f_A E S s.heap.size) E S Y.2.2.1) ?_ s.heap [] _ hP va_S.rf hls
  refine ⟨s_iadd hx hb hml hown hts hN hK hI hA hA2, s_isub hx hb hml hown hts hN hK hI hA hA2, s_imul hx hb hml hown hts hN hK hI hA hA2, s_idiv hx hb hml hown hts hN hK hI hA hA2, s_irem hx hb hml hown hts hN hK hI hA hA2, s_iand hx hb hml hown hts hN hK hI hA hA2, s_ior hx hb hml hown hts hN hK hI hA hA2, s_ixor hx hb hml hown hts hN hK hI hA hA2, s_ishl hx hb hml hown hts hN hK hI hA hA2, s_ishr hx hb hml hown hts hN hK hI hA hA2, s_iushr hx hb hml hown hts hN hK hI hA hA2, s_ladd hx hb hml hown hts hN hK hI hA hA2, s_lmul hx hb hml hown hts hN hK hI hA hA2, s_ldiv hx hb hml hown hts hN hK hI hA hA2, s_lrem hx hb hml hown hts hN hK hI hA hA2, s_i2l hx hb hml hown hts hN hK hI hA hA2, s_l2i hx hb hml hown hts hN hK hI hA hA2, s_lcmp hx hb hml hown hts hN hK hI hA hA2, s_iconst hx hb hml hown hts hN hK hI hA hA2, s_bipush hx hb hml hown hts hN hK hI hA hA2, s_sipush hx hb hml hown hts hN hK hI hA hA2, s_lconst hx hb hml hown hts hN hK hI hA hA2, s_ldc hx hb hml hown hts hN hK hI hA hA2, s_ldcw hx hb hml hown hts hN hK hI hA hA2, s_ldc2 hx hb hml hown hts hN hK hI hA hA2, s_null hx hb hml hown hts hN hK hI hA hA2, s_dup hx hb hml hown hts hN hK hI hA hA2, s_dup2 hx hb hml hown hts hN hK hI hA hA2, s_pop hx hb hml hown hts hN hK hI hA hA2, s_icmp_eq hx hb hml hown hts hN hK hI hA hA2, s_icmp_ne hx hb hml hown hts hN hK hI hA hA2, s_icmp_lt hx hb hml hown hts hN hK hI hA hA2, s_icmp_ge hx hb hml hown hts hN hK hI hA hA2, s_icmp_gt hx hb hml hown hts hN hK hI hA hA2, s_icmp_le hx hb hml hown hts hN hK hI hA hA2, s_if_eq hx hb hml hown hts hN hK hI hA hA2, s_if_ne hx hb hml hown hts hN hK hI hA hA2, s_if_lt hx hb hml hown hts hN hK hI hA hA2, s_if_ge hx hb hml hown hts hN hK hI hA hA2, s_if_gt hx hb hml hown hts hN hK hI hA hA2, s_if_le hx hb hml hown hts hN hK hI hA hA2, s_goto hx hb hml hown hts hN hK hI hA hA2, s_ifnull hx hb hml hown hts hN hK hI hA hA2, s_ifnullN hx hb hml hown hts hN hK hI hA hA2, s_ifnonnull hx hb hml hown hts hN hK hI hA hA2, s_ifnonnullN hx hb hml hown hts hN hK hI hA hA2, s_tblIn hx hb hml hown hts hN hK hI hA hA2, s_tblOut hx hb hml hown hts hN hK hI hA hA2, s_iload_n hx hb hml hown hts hN hK hI hA hA2, s_iload hx hb hml hown hts hN hK hI hA hA2, s_aload_n hx hb hml hown hts hN hK hI hA hA2, s_aload hx hb hml hown hts hN hK hI hA hA2, s_aloadN_n hx hb hml hown hts hN hK hI hA hA2, s_aloadN hx hb hml hown hts hN hK hI hA hA2, s_lload_n hx hb hml hown hts hN hK hI hA hA2, s_lload hx hb hml hown hts hN hK hI hA hA2, s_istore_n hx hb hml hown hts hN hK hI hA hA2, s_istore hx hb hml hown hts hN hK hI hA hA2, s_astore_n hx hb hml hown hts hN hK hI hA hA2, s_astore hx hb hml hown hts hN hK hI hA hA2, s_astoreN_n hx hb hml hown hts hN hK hI hA hA2, s_astoreN hx hb hml hown hts hN hK hI hA hA2, s_lstore_n hx hb hml hown hts hN hK hI hA hA2, s_lstore hx hb hml hown hts hN hK hI hA hA2, s_iinc hx hb hml hown hts hN hK hI hA hA2, s_getI hx hb hml hown hts hN hK hI hA hA2, s_getR hx hb hml hown hts hN hK hI hA hA2, s_getN hx hb hml hown hts hN hK hI hA hA2, s_put hx hb hml hown hts hN hK hI hA hA2, s_ald hx hb hml hown hts hN hK hI hA hA2, s_ast hx hb hml hown hts hN hK hI hA hA2, s_alenI hx hb hml hown hts hN hK hI hA hA2, s_alenQ hx hb hml hown hts hN hK hI hA hA2, s_aldQ hx hb hml hown hts hN hK hI hA hA2, s_astQ hx hb hml hown hts hN hK hI hA hA2, s_max hx hb hml hown hts hN hK hI hA hA2, s_min hx hb hml hown hts hN hK hI hA hA2, s_copy hx hb hml hown hts hN hK hI hA hA2, s_callV hx hb hml hown hts hN hK hI hA hA2, s_callS hx hb hml hown hts hN hK hI hA hA2, ?_, ?_, ?_, ?_⟩

  · intro pc L σ v ty hd h0 h1 hq H locs ls hP hS hl
    obtain ⟨r, hr1, hr2⟩ := hq
    exact W.zret hx hb (hr.trans h0) h1 (fun t ht hW => ⟨⟨r, σ, by rw [hr1], hr2, by rw [ht]; exact hP, va_K.moved hW.alike hK⟩, hS.F ht⟩) hS.2.2 hd hlocks
  · intro pc L σ hd h0 hq H locs ls hP hS hl
    obtain ⟨r, hr1, hr2⟩ := hq
    exact W.vret hx hb (hr.trans h0) (fun t ht hW => ⟨⟨r, σ, by rw [hr1], hr2, by rw [ht]; exact hP, va_K.moved hW.alike hK⟩, hS.F ht⟩) hS.2.2 hd hlocks
  · intro pc L σ v hd h0 hq H locs ls hP hS hl
    obtain ⟨r, hr1, hr2⟩ := hq
    exact W.lret hx hb (hr.trans h0) (fun t ht hW => ⟨⟨r, σ, by rw [hr1], hr2, by rw [ht]; exact hP, va_K.moved hW.alike hK⟩, hS.F ht⟩) hS.2.2 hd hlocks
  · intro pc L σ v cn hd h0 h1 hq H locs ls hP hS hl
    obtain ⟨r, hr1, hr2⟩ := hq
    exact W.aret hx hb (hr.trans h0) (Or.inl ⟨cn, rfl⟩) h1 (fun t ht hW => ⟨⟨r, σ, by rw [hr1], hr2, by rw [ht]; exact hP, va_K.moved hW.alike hK⟩, hS.F ht⟩) hS.2.2 hd hlocks
