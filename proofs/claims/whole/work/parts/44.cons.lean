
abbrev k_T : Type := List Value × va_W × Nat × Nat
abbrev k_G : Type := Nat → f_L → List Value → k_T → Prop
def k_E (E : f_E) (ad : Nat → Nat) : f_E := (E.1, E.2.1, E.2.2.1, E.2.2.2.1, ad)
def k_A (h0 sz : Nat) : Nat → Prop := fun q => q = h0 ∨ sz ≤ q
def k_Q (E : f_E) (h0 : Nat) (Po : Nat → va_W → Prop) (A : Nat → Prop) : Array Value → State → Outcome → State → Prop := fun _ st o t => (∃ w, o = .returned none ∧ Po h0 w ∧ va_P E.2.1 vwCl w t.heap ∧ va_D A w ∧ f_K E t) ∧ va_F A st t
def k_Pc (E : f_E) (ci : Nat) (fs0 As : List Value) (h0 sz : Nat) : Array Value → State → Prop := va_Pc (.ref h0 :: As) (fun U => U.heap.size = sz ∧ va_P E.2.1 vwCl [(h0, .inr (ci, fs0))] U.heap ∧ f_K E U ∧ f_NW U ∧ va_AO RX2 U)
/-- a constructor: what it makes -/
def CM (E : f_E) (Y : f_Y) (d mc ms ci : Nat) (fs0 As : List Value) (Po : Nat → va_W → Prop) : Prop := ∀ h0 sz : Nat, Met E.1 Y.1 (Cond.code Y.1 Y.2.1 Y.2.2.1 Y.2.2.2 :: tb) (k_rm d mc ms) (k_Pc E ci fs0 As h0 sz) (k_Q E h0 Po (k_A h0 sz)) mc ms (k_A h0 sz)
def k_Po (E : f_E) (S : f_S) (pr : f_Mem → Prop) : Nat → va_W → Prop := fun h0 w => ∃ (ad : Nat → Nat) (σ : f_Mem), ad 0 = h0 ∧ w = f_wl (k_E E ad) S σ ∧ pr σ
def k_NL (own : String) (i ci N : Nat) (fs : List Value) : Prop := ∃ (C : String) (T : u_T) (ty : Nat → FieldType), vwCl[ci]? = some (C, T, N) ∧ (∀ w ∈ u_ws C T N, w ∈ tb) ∧ (∀ k, k < N → parseFieldDescriptor (T k).2.2.1 = some (ty k)) ∧ (∀ j, j < N → defaultValue (ty j) = vp_V fs j) ∧ Cond.classLink own i C ∈ tb ∧ Cond.instantiable C N ∈ tb ∧ Cond.initialized C ∈ tb
def k_rfl (ty : FieldType) : Prop := ∀ v : Value, (v = .null ∨ ∃ q, v = .ref q) → narrow ty v = v ∧ fits ty v = true
def k_FF (own : String) (i ci k : Nat) : Prop := ∃ (C : String) (T : u_T) (N : Nat) (ty0 : Nat → FieldType), vwCl[ci]? = some (C, T, N) ∧ (∀ w ∈ u_ws C T N, w ∈ tb) ∧ k < N ∧ Cond.fieldLink own i (T k).1 (T k).2.1 (T k).2.2.1 ∈ tb ∧ (∀ k, k < N → parseFieldDescriptor (T k).2.2.1 = some (ty0 k)) ∧ (∀ a, a < N → ∀ b, b < N → a ≠ b → (T a).2.1 ≠ (T b).2.1) ∧ (T k).2.2.2 = true ∧ (T k).1 = own ∧ k_rfl (ty0 k)
def k_LI (own : String) (i : Nat) (Y : f_Y) (n : Nat) : Prop := f_LC Y ∧ Cond.instanceMethod Y.1 ∈ tb ∧ Y.1.name = "<init>" ∧ Y.2.2.2 = none ∧ (Cond.methodLink own i Y.1 ∈ tb ∨ ∃ host, Cond.methodLinkNest own i Y.1 host ∈ nw) ∧ f_hd Y n
theorem k_rfl_o (C : String) : k_rfl (.object C) := by rintro _ (rfl | ⟨q, rfl⟩) <;> exact ⟨rfl, rfl⟩
theorem k_rfl_a (t : FieldType) : k_rfl (.array t) := by rintro _ (rfl | ⟨q, rfl⟩) <;> exact ⟨rfl, rfl⟩

theorem tb_oi1 : Cond.instanceMethod Lib.objectInit ∈ tb := tb_in (List.mem_of_getElem? (i := 68) (by decide +kernel)) (by decide +kernel)
theorem tb_oi2 : Cond.code Lib.objectInit ⟨#[0xb1]⟩ 1 none ∈ tb := tb_in (List.mem_of_getElem? (i := 69) (by decide +kernel)) (by decide +kernel)
theorem tb_arI : Cond.arrayClass (newarray.typeOf .int) ∈ tb := tb_in (List.mem_of_getElem? (i := 86) (by decide +kernel)) (by decide +kernel)
def kr_iconst (cc : ByteArray) (own : String) (D MC MS : Nat) (E : f_E) (ci h0 : Nat) (Po : Nat → va_W → Prop) (G : k_G) : Prop := ∀ (pc : Nat) (L : f_L) (st : List Value) (σ : k_T) (n : Int) (v : Int32), (decode cc pc = .ok ((.iconst n), 1)) → (Int32.ofInt n = v) → G (pc + 1) L (.int v :: st) σ → G pc L (st) σ
def kr_bipush (cc : ByteArray) (own : String) (D MC MS : Nat) (E : f_E) (ci h0 : Nat) (Po : Nat → va_W → Prop) (G : k_G) : Prop := ∀ (pc : Nat) (L : f_L) (st : List Value) (σ : k_T) (n : Int) (v : Int32), (decode cc pc = .ok ((.bipush n), 2)) → ((Int8.ofInt n).toInt32 = v) → G (pc + 2) L (.int v :: st) σ → G pc L (st) σ
def kr_sipush (cc : ByteArray) (own : String) (D MC MS : Nat) (E : f_E) (ci h0 : Nat) (Po : Nat → va_W → Prop) (G : k_G) : Prop := ∀ (pc : Nat) (L : f_L) (st : List Value) (σ : k_T) (n : Int) (v : Int32), (decode cc pc = .ok ((.sipush n), 3)) → ((Int16.ofInt n).toInt32 = v) → G (pc + 3) L (.int v :: st) σ → G pc L (st) σ
def kr_null (cc : ByteArray) (own : String) (D MC MS : Nat) (E : f_E) (ci h0 : Nat) (Po : Nat → va_W → Prop) (G : k_G) : Prop := ∀ (pc : Nat) (L : f_L) (st : List Value) (σ : k_T), (decode cc pc = .ok (.aconst_null, 1)) → G (pc + 1) L (.null :: st) σ → G pc L (st) σ
def kr_dup (cc : ByteArray) (own : String) (D MC MS : Nat) (E : f_E) (ci h0 : Nat) (Po : Nat → va_W → Prop) (G : k_G) : Prop := ∀ (pc : Nat) (L : f_L) (st : List Value) (σ : k_T) (v : Value), (decode cc pc = .ok (.dup, 1)) → (v.category = 1) → G (pc + 1) L (v :: v :: st) σ → G pc L (v :: st) σ
def kr_goto (cc : ByteArray) (own : String) (D MC MS : Nat) (E : f_E) (ci h0 : Nat) (Po : Nat → va_W → Prop) (G : k_G) : Prop := ∀ (pc : Nat) (L : f_L) (st : List Value) (σ : k_T) (off : Int) (tgt : Nat), (decode cc pc = .ok (.goto off, 3)) → ((pc : Int) + off = (tgt : Int)) → G tgt L st σ → G pc L st σ
def kr_icmp_ge (cc : ByteArray) (own : String) (D MC MS : Nat) (E : f_E) (ci h0 : Nat) (Po : Nat → va_W → Prop) (G : k_G) : Prop := ∀ (pc : Nat) (L : f_L) (st : List Value) (σ : k_T) (off : Int) (tgt : Nat) (x y : Int32), (decode cc pc = .ok (.if_icmp .ge off, 3)) → ((pc : Int) + off = (tgt : Int)) → (y ≤ x → G tgt L st σ) → (¬ y ≤ x → G (pc + 3) L st σ) → G pc L (.int y :: .int x :: st) σ
def kr_icmp_gt (cc : ByteArray) (own : String) (D MC MS : Nat) (E : f_E) (ci h0 : Nat) (Po : Nat → va_W → Prop) (G : k_G) : Prop := ∀ (pc : Nat) (L : f_L) (st : List Value) (σ : k_T) (off : Int) (tgt : Nat) (x y : Int32), (decode cc pc = .ok (.if_icmp .gt off, 3)) → ((pc : Int) + off = (tgt : Int)) → (y < x → G tgt L st σ) → (¬ y < x → G (pc + 3) L st σ) → G pc L (.int y :: .int x :: st) σ
def kr_iload_n (cc : ByteArray) (own : String) (D MC MS : Nat) (E : f_E) (ci h0 : Nat) (Po : Nat → va_W → Prop) (G : k_G) : Prop := ∀ (pc : Nat) (L : f_L) (st : List Value) (σ : k_T) (k : Fin 4) (x : Int32), (decode cc pc = .ok (.iload_n k, 1)) → (L[(k : Nat)]? = some (some (.int x))) → G (pc + 1) L (.int x :: st) σ → G pc L st σ
def kr_aload_n (cc : ByteArray) (own : String) (D MC MS : Nat) (E : f_E) (ci h0 : Nat) (Po : Nat → va_W → Prop) (G : k_G) : Prop := ∀ (pc : Nat) (L : f_L) (st : List Value) (σ : k_T) (k : Fin 4) (x : Nat), (decode cc pc = .ok (.aload_n k, 1)) → (L[(k : Nat)]? = some (some (.ref x))) → G (pc + 1) L (.ref x :: st) σ → G pc L st σ
def kr_aloadN_n (cc : ByteArray) (own : String) (D MC MS : Nat) (E : f_E) (ci h0 : Nat) (Po : Nat → va_W → Prop) (G : k_G) : Prop := ∀ (pc : Nat) (L : f_L) (st : List Value) (σ : k_T) (k : Fin 4), (decode cc pc = .ok (.aload_n k, 1)) → (L[(k : Nat)]? = some (some (.null))) → G (pc + 1) L (.null :: st) σ → G pc L st σ
def kr_istore_n (cc : ByteArray) (own : String) (D MC MS : Nat) (E : f_E) (ci h0 : Nat) (Po : Nat → va_W → Prop) (G : k_G) : Prop := ∀ (pc : Nat) (L : f_L) (st : List Value) (σ : k_T) (k : Fin 4) (x : Int32), (decode cc pc = .ok (.istore_n k, 1)) → ((k : Nat) < L.length) → (f_nl L k = true) → G (pc + 1) (L.set k (some (.int x))) st σ → G pc L (.int x :: st) σ
def kr_astore_n (cc : ByteArray) (own : String) (D MC MS : Nat) (E : f_E) (ci h0 : Nat) (Po : Nat → va_W → Prop) (G : k_G) : Prop := ∀ (pc : Nat) (L : f_L) (st : List Value) (σ : k_T) (k : Fin 4) (x : Nat), (decode cc pc = .ok (.astore_n k, 1)) → ((k : Nat) < L.length) → (f_nl L k = true) → G (pc + 1) (L.set k (some (.ref x))) st σ → G pc L (.ref x :: st) σ
def kr_astoreN_n (cc : ByteArray) (own : String) (D MC MS : Nat) (E : f_E) (ci h0 : Nat) (Po : Nat → va_W → Prop) (G : k_G) : Prop := ∀ (pc : Nat) (L : f_L) (st : List Value) (σ : k_T) (k : Fin 4), (decode cc pc = .ok (.astore_n k, 1)) → ((k : Nat) < L.length) → (f_nl L k = true) → G (pc + 1) (L.set k (some (.null))) st σ → G pc L (.null :: st) σ
def kr_iinc (cc : ByteArray) (own : String) (D MC MS : Nat) (E : f_E) (ci h0 : Nat) (Po : Nat → va_W → Prop) (G : k_G) : Prop := ∀ (pc : Nat) (L : f_L) (st : List Value) (σ : k_T) (k : Nat) (n : Int) (x v : Int32), (decode cc pc = .ok (.iinc k n, 3)) → (L[k]? = some (some (.int x))) → (x + Int32.ofInt n = v) → (f_nl L k = true) → G (pc + 3) (L.set k (some (.int v))) st σ → G pc L st σ
def kr_oinit (cc : ByteArray) (own : String) (D MC MS : Nat) (E : f_E) (ci h0 : Nat) (Po : Nat → va_W → Prop) (G : k_G) : Prop := ∀ (pc : Nat) (L : f_L) (rest : List Value) (σ : k_T) (i a : Nat), (decode cc pc = .ok (.invokespecial i, 3)) → (Cond.methodLink own i Lib.objectInit ∈ tb) → (1 ≤ D) → ((rest.map fun v => v.category).sum ≤ 8) → G (pc + 3) L rest σ → G pc L (.ref a :: rest) σ
def kr_new (cc : ByteArray) (own : String) (D MC MS : Nat) (E : f_E) (ci h0 : Nat) (Po : Nat → va_W → Prop) (G : k_G) : Prop := ∀ (pc : Nat) (L : f_L) (rest : List Value) (fs : List Value) (R : va_W) (k n : Nat) (i c2 N : Nat) (fs2 : List Value), (decode cc pc = .ok (.new i, 3)) → (k_NL own i c2 N fs2) → (k + 1 ≤ MC) → (n + N ≤ MS) → (∀ q : Nat, G (pc + 3) L (.ref q :: rest) (fs, R ++ [(q, .inr (c2, fs2))], k + 1, n + N)) → G pc L rest (fs, R, k, n)
def kr_newa (cc : ByteArray) (own : String) (D MC MS : Nat) (E : f_E) (ci h0 : Nat) (Po : Nat → va_W → Prop) (G : k_G) : Prop := ∀ (pc : Nat) (L : f_L) (rest : List Value) (fs : List Value) (R : va_W) (k n : Nat) (x : Int32) (N : Nat), (decode cc pc = .ok (.newarray .int, 2)) → (¬ x < 0) → (x.toNatClampNeg = N) → (N ≤ 1000000) → (k + 1 ≤ MC) → (n + N ≤ MS) → (∀ q : Nat, G (pc + 2) L (.ref q :: rest) (fs, R ++ [(q, .inl (E.2.2.1, (N, .inl (fun _ => 0))))], k + 1, n + N)) → G pc L (.int x :: rest) (fs, R, k, n)
def kr_newq (cc : ByteArray) (own : String) (D MC MS : Nat) (E : f_E) (ci h0 : Nat) (Po : Nat → va_W → Prop) (G : k_G) : Prop := ∀ (pc : Nat) (L : f_L) (rest : List Value) (fs : List Value) (R : va_W) (k n : Nat) (i : Nat) (x : Int32) (N : Nat), (decode cc pc = .ok (.anewarray i, 3)) → (Cond.classLink own i RX2 ∈ tb) → (¬ x < 0) → (x.toNatClampNeg = N) → (N ≤ 1000000) → (k + 1 ≤ MC) → (n + N ≤ MS) → (∀ q : Nat, G (pc + 3) L (.ref q :: rest) (fs, R ++ [(q, .inl (E.2.2.2.1, (N, .inr (.inr (.inr (.inr (fun _ => none)))))))], k + 1, n + N)) → G pc L (.int x :: rest) (fs, R, k, n)
def kr_putf (cc : ByteArray) (own : String) (D MC MS : Nat) (E : f_E) (ci h0 : Nat) (Po : Nat → va_W → Prop) (G : k_G) : Prop := ∀ (pc : Nat) (L : f_L) (rest : List Value) (fs : List Value) (R : va_W) (k n : Nat) (i kk : Nat) (v : Value), (decode cc pc = .ok (.putfield i, 3)) → (k_FF own i ci kk) → (v = .null ∨ ∃ q, v = .ref q) → (kk < fs.length) → G (pc + 3) L rest (fs.set kk v, R, k, n) → G pc L (v :: .ref h0 :: rest) (fs, R, k, n)
def kr_getf (cc : ByteArray) (own : String) (D MC MS : Nat) (E : f_E) (ci h0 : Nat) (Po : Nat → va_W → Prop) (G : k_G) : Prop := ∀ (pc : Nat) (L : f_L) (rest : List Value) (fs : List Value) (R : va_W) (k n : Nat) (i kk : Nat) (v : Value), (decode cc pc = .ok (.getfield i, 3)) → (f_FL own i ci kk) → (fs[kk]? = some v) → G (pc + 3) L (v :: rest) (fs, R, k, n) → G pc L (.ref h0 :: rest) (fs, R, k, n)
def kr_max (cc : ByteArray) (own : String) (D MC MS : Nat) (E : f_E) (ci h0 : Nat) (Po : Nat → va_W → Prop) (G : k_G) : Prop := ∀ (pc : Nat) (L : f_L) (rest : List Value) (σ : k_T) (i : Nat) (x y z : Int32), (decode cc pc = .ok (.invokestatic i, 3)) → (Cond.methodLink own i Lib.Math.max.name ∈ tb) → (1 ≤ D) → ((rest.map fun v => v.category).sum ≤ 8) → ((if x < y then y else x) = z) → G (pc + 3) L (.int z :: rest) σ → G pc L (.int y :: .int x :: rest) σ
def kr_init (cc : ByteArray) (own : String) (D MC MS : Nat) (E : f_E) (ci h0 : Nat) (Po : Nat → va_W → Prop) (G : k_G) : Prop := ∀ (pc : Nat) (L : f_L) (rest : List Value) (fs : List Value) (R : va_W) (k n : Nat) (As : List Value) (i q c2 d mc ms : Nat) (fs2 : List Value) (Y : f_Y) (P2 : Nat → va_W → Prop), (decode cc pc = .ok (.invokespecial i, 3)) → (k_LI own i Y As.length) → (CM E Y d mc ms c2 fs2 As P2) → (d + 1 ≤ D) → (k + mc ≤ MC) → (n + ms ≤ MS) → ((rest.map fun v => v.category).sum ≤ 8) → (∀ w, P2 q w → G (pc + 3) L rest (fs, R ++ w, k + mc, n + ms)) → G pc L (As.reverse ++ .ref q :: rest) (fs, R ++ [(q, .inr (c2, fs2))], k, n)
def kr_alen (cc : ByteArray) (own : String) (D MC MS : Nat) (E : f_E) (ci h0 : Nat) (Po : Nat → va_W → Prop) (G : k_G) : Prop := ∀ (pc : Nat) (L : f_L) (rest : List Value) (fs : List Value) (R : va_W) (k n : Nat) (q0 a N : Nat) (f : Nat → Option Nat) (v : Int32), (decode cc pc = .ok (.arraylength, 1)) → (R[q0]? = some (a, .inl (E.2.2.2.1, (N, .inr (.inr (.inr (.inr f))))))) → (Int32.ofNat N = v) → G (pc + 1) L (.int v :: rest) (fs, R, k, n) → G pc L (.ref a :: rest) (fs, R, k, n)
def kr_astq (cc : ByteArray) (own : String) (D MC MS : Nat) (E : f_E) (ci h0 : Nat) (Po : Nat → va_W → Prop) (G : k_G) : Prop := ∀ (pc : Nat) (L : f_L) (rest : List Value) (fs : List Value) (R : va_W) (k n : Nat) (q0 qk a N v : Nat) (vs : List Value) (f : Nat → Option Nat) (i : Int32), (decode cc pc = .ok (.aastore, 1)) → (R[q0]? = some (a, .inl (E.2.2.2.1, (N, .inr (.inr (.inr (.inr f))))))) → (R[qk]? = some (v, .inr (2, vs))) → (vp_in i N) → G (pc + 1) L rest (fs, R.set q0 (a, .inl (E.2.2.2.1, (N, .inr (.inr (.inr (.inr (va_up f i.toNatClampNeg (some v)))))))), k, n) → G pc L (.ref v :: .int i :: .ref a :: rest) (fs, R, k, n)
def kr_fm (cc : ByteArray) (own : String) (D MC MS : Nat) (E : f_E) (ci h0 : Nat) (Po : Nat → va_W → Prop) (G : k_G) : Prop := ∀ (ρ : Type) (pc : Nat) (L : f_L) (rest : List Value) (fs : List Value) (R : va_W) (k n : Nat) (As : List Value) (i c2 d : Nat) (fsh : List (Option (Option Nat))) (S : f_S) (ad : Nat → Nat) (σ : f_Mem) (Y : f_Y) (enc : ρ → Option Value) (post2 : ρ → f_Mem → Prop), (decode cc pc = .ok (.invokevirtual i, 3)) → (f_LV own i Y As.length) → (0 < S.1) → (S.2 0 = .inl (c2, fsh)) → ((vwCl[c2]?).map (fun q => q.1) = some Y.1.cls) → (FM (k_E E ad) S Y d (.ref (ad 0) :: As) σ enc post2) → (d + 1 ≤ D) → ((rest.map fun v => v.category).sum ≤ 8) → (∀ (r : ρ) (u : f_Mem), post2 r u → G (pc + 3) L ((enc r).toList ++ rest) (fs, R ++ f_wl (k_E E ad) S u, k, n)) → G pc L (As.reverse ++ .ref (ad 0) :: rest) (fs, R ++ f_wl (k_E E ad) S σ, k, n)
def kr_ret (cc : ByteArray) (own : String) (D MC MS : Nat) (E : f_E) (ci h0 : Nat) (Po : Nat → va_W → Prop) (G : k_G) : Prop := ∀ (pc : Nat) (L : f_L) (fs : List Value) (R : va_W) (k n : Nat), (decode cc pc = .ok (.return_, 1)) → (k = MC) → (n = MS) → (Po h0 ((h0, .inr (ci, fs)) :: R)) → G pc L [] (fs, R, k, n)
def kr_conv (cc : ByteArray) (own : String) (D MC MS : Nat) (E : f_E) (ci h0 : Nat) (Po : Nat → va_W → Prop) (G : k_G) : Prop := ∀ (pc : Nat) (L : f_L) (rest : List Value) (fs : List Value) (R : va_W) (k n : Nat) (R2 : va_W), (∀ (H : Heap) (A2 : Nat → Prop), va_P E.2.1 vwCl ((h0, .inr (ci, fs)) :: R) H → va_D A2 ((h0, .inr (ci, fs)) :: R) → va_P E.2.1 vwCl ((h0, .inr (ci, fs)) :: R2) H ∧ va_D A2 ((h0, .inr (ci, fs)) :: R2)) → G pc L rest (fs, R2, k, n) → G pc L rest (fs, R, k, n)
def kr_tail (RS : f_G → Prop) (cc : ByteArray) (own : String) (D MC MS : Nat) (E : f_E) (ci h0 : Nat) (Po : Nat → va_W → Prop) (G : k_G) : Prop := ∀ (pc : Nat) (L : f_L) (fs : List Value) (R : va_W) (k n : Nat) (ad : Nat → Nat) (S : f_S) (σ : f_Mem) (post : f_Mem → Prop), (k = MC) → (n = MS) → (∀ (H : Heap) (A2 : Nat → Prop), va_P E.2.1 vwCl ((h0, .inr (ci, fs)) :: R) H → va_D A2 ((h0, .inr (ci, fs)) :: R) → f_P (k_E E ad) S σ H ∧ f_I (k_E E ad) S ∧ ∀ k, k < S.1 → A2 (ad k)) → (∀ G2 : f_G, Rul cc own none D (k_E E ad) S eV (fun _ u => post u) G2 → RS G2 → G2 pc L [] σ) → (∀ u, post u → Po h0 (f_wl (k_E E ad) S u)) → G pc L [] (fs, R, k, n)
def RulK (cc : ByteArray) (own : String) (D MC MS : Nat) (E : f_E) (ci h0 : Nat) (Po : Nat → va_W → Prop) (G : k_G) : Prop := kr_iconst cc own D MC MS E ci h0 Po G ∧ kr_bipush cc own D MC MS E ci h0 Po G ∧ kr_sipush cc own D MC MS E ci h0 Po G ∧ kr_null cc own D MC MS E ci h0 Po G ∧ kr_dup cc own D MC MS E ci h0 Po G ∧ kr_goto cc own D MC MS E ci h0 Po G ∧ kr_icmp_ge cc own D MC MS E ci h0 Po G ∧ kr_icmp_gt cc own D MC MS E ci h0 Po G ∧ kr_iload_n cc own D MC MS E ci h0 Po G ∧ kr_aload_n cc own D MC MS E ci h0 Po G ∧ kr_aloadN_n cc own D MC MS E ci h0 Po G ∧ kr_istore_n cc own D MC MS E ci h0 Po G ∧ kr_astore_n cc own D MC MS E ci h0 Po G ∧ kr_astoreN_n cc own D MC MS E ci h0 Po G ∧ kr_iinc cc own D MC MS E ci h0 Po G ∧ kr_oinit cc own D MC MS E ci h0 Po G ∧ kr_new cc own D MC MS E ci h0 Po G ∧ kr_newa cc own D MC MS E ci h0 Po G ∧ kr_newq cc own D MC MS E ci h0 Po G ∧ kr_putf cc own D MC MS E ci h0 Po G ∧ kr_getf cc own D MC MS E ci h0 Po G ∧ kr_max cc own D MC MS E ci h0 Po G ∧ kr_init cc own D MC MS E ci h0 Po G ∧ kr_alen cc own D MC MS E ci h0 Po G ∧ kr_astq cc own D MC MS E ci h0 Po G ∧ kr_fm cc own D MC MS E ci h0 Po G ∧ kr_ret cc own D MC MS E ci h0 Po G ∧ kr_conv cc own D MC MS E ci h0 Po G
theorem j_iconst {cc : ByteArray} {own : String} {D MC MS : Nat} {E : f_E} {ci h0 : Nat} {Po : Nat → va_W → Prop} {G : k_G} (hR : RulK cc own D MC MS E ci h0 Po G) : kr_iconst cc own D MC MS E ci h0 Po G := hR.1
theorem j_bipush {cc : ByteArray} {own : String} {D MC MS : Nat} {E : f_E} {ci h0 : Nat} {Po : Nat → va_W → Prop} {G : k_G} (hR : RulK cc own D MC MS E ci h0 Po G) : kr_bipush cc own D MC MS E ci h0 Po G := hR.2.1
theorem j_sipush {cc : ByteArray} {own : String} {D MC MS : Nat} {E : f_E} {ci h0 : Nat} {Po : Nat → va_W → Prop} {G : k_G} (hR : RulK cc own D MC MS E ci h0 Po G) : kr_sipush cc own D MC MS E ci h0 Po G := hR.2.2.1
theorem j_null {cc : ByteArray} {own : String} {D MC MS : Nat} {E : f_E} {ci h0 : Nat} {Po : Nat → va_W → Prop} {G : k_G} (hR : RulK cc own D MC MS E ci h0 Po G) : kr_null cc own D MC MS E ci h0 Po G := hR.2.2.2.1
theorem j_dup {cc : ByteArray} {own : String} {D MC MS : Nat} {E : f_E} {ci h0 : Nat} {Po : Nat → va_W → Prop} {G : k_G} (hR : RulK cc own D MC MS E ci h0 Po G) : kr_dup cc own D MC MS E ci h0 Po G := hR.2.2.2.2.1
theorem j_goto {cc : ByteArray} {own : String} {D MC MS : Nat} {E : f_E} {ci h0 : Nat} {Po : Nat → va_W → Prop} {G : k_G} (hR : RulK cc own D MC MS E ci h0 Po G) : kr_goto cc own D MC MS E ci h0 Po G := hR.2.2.2.2.2.1
theorem j_icmp_ge {cc : ByteArray} {own : String} {D MC MS : Nat} {E : f_E} {ci h0 : Nat} {Po : Nat → va_W → Prop} {G : k_G} (hR : RulK cc own D MC MS E ci h0 Po G) : kr_icmp_ge cc own D MC MS E ci h0 Po G := hR.2.2.2.2.2.2.1
theorem j_icmp_gt {cc : ByteArray} {own : String} {D MC MS : Nat} {E : f_E} {ci h0 : Nat} {Po : Nat → va_W → Prop} {G : k_G} (hR : RulK cc own D MC MS E ci h0 Po G) : kr_icmp_gt cc own D MC MS E ci h0 Po G := hR.2.2.2.2.2.2.2.1
theorem j_iload_n {cc : ByteArray} {own : String} {D MC MS : Nat} {E : f_E} {ci h0 : Nat} {Po : Nat → va_W → Prop} {G : k_G} (hR : RulK cc own D MC MS E ci h0 Po G) : kr_iload_n cc own D MC MS E ci h0 Po G := hR.2.2.2.2.2.2.2.2.1
theorem j_aload_n {cc : ByteArray} {own : String} {D MC MS : Nat} {E : f_E} {ci h0 : Nat} {Po : Nat → va_W → Prop} {G : k_G} (hR : RulK cc own D MC MS E ci h0 Po G) : kr_aload_n cc own D MC MS E ci h0 Po G := hR.2.2.2.2.2.2.2.2.2.1
theorem j_aloadN_n {cc : ByteArray} {own : String} {D MC MS : Nat} {E : f_E} {ci h0 : Nat} {Po : Nat → va_W → Prop} {G : k_G} (hR : RulK cc own D MC MS E ci h0 Po G) : kr_aloadN_n cc own D MC MS E ci h0 Po G := hR.2.2.2.2.2.2.2.2.2.2.1
theorem j_istore_n {cc : ByteArray} {own : String} {D MC MS : Nat} {E : f_E} {ci h0 : Nat} {Po : Nat → va_W → Prop} {G : k_G} (hR : RulK cc own D MC MS E ci h0 Po G) : kr_istore_n cc own D MC MS E ci h0 Po G := hR.2.2.2.2.2.2.2.2.2.2.2.1
theorem j_astore_n {cc : ByteArray} {own : String} {D MC MS : Nat} {E : f_E} {ci h0 : Nat} {Po : Nat → va_W → Prop} {G : k_G} (hR : RulK cc own D MC MS E ci h0 Po G) : kr_astore_n cc own D MC MS E ci h0 Po G := hR.2.2.2.2.2.2.2.2.2.2.2.2.1
theorem j_astoreN_n {cc : ByteArray} {own : String} {D MC MS : Nat} {E : f_E} {ci h0 : Nat} {Po : Nat → va_W → Prop} {G : k_G} (hR : RulK cc own D MC MS E ci h0 Po G) : kr_astoreN_n cc own D MC MS E ci h0 Po G := hR.2.2.2.2.2.2.2.2.2.2.2.2.2.1
theorem j_iinc {cc : ByteArray} {own : String} {D MC MS : Nat} {E : f_E} {ci h0 : Nat} {Po : Nat → va_W → Prop} {G : k_G} (hR : RulK cc own D MC MS E ci h0 Po G) : kr_iinc cc own D MC MS E ci h0 Po G := hR.2.2.2.2.2.2.2.2.2.2.2.2.2.2.1
theorem j_oinit {cc : ByteArray} {own : String} {D MC MS : Nat} {E : f_E} {ci h0 : Nat} {Po : Nat → va_W → Prop} {G : k_G} (hR : RulK cc own D MC MS E ci h0 Po G) : kr_oinit cc own D MC MS E ci h0 Po G := hR.2.2.2.2.2.2.2.2.2.2.2.2.2.2.2.1
theorem j_new {cc : ByteArray} {own : String} {D MC MS : Nat} {E : f_E} {ci h0 : Nat} {Po : Nat → va_W → Prop} {G : k_G} (hR : RulK cc own D MC MS E ci h0 Po G) : kr_new cc own D MC MS E ci h0 Po G := hR.2.2.2.2.2.2.2.2.2.2.2.2.2.2.2.2.1
theorem j_newa {cc : ByteArray} {own : String} {D MC MS : Nat} {E : f_E} {ci h0 : Nat} {Po : Nat → va_W → Prop} {G : k_G} (hR : RulK cc own D MC MS E ci h0 Po G) : kr_newa cc own D MC MS E ci h0 Po G := hR.2.2.2.2.2.2.2.2.2.2.2.2.2.2.2.2.2.1
theorem j_newq {cc : ByteArray} {own : String} {D MC MS : Nat} {E : f_E} {ci h0 : Nat} {Po : Nat → va_W → Prop} {G : k_G} (hR : RulK cc own D MC MS E ci h0 Po G) : kr_newq cc own D MC MS E ci h0 Po G := hR.2.2.2.2.2.2.2.2.2.2.2.2.2.2.2.2.2.2.1
theorem j_putf {cc : ByteArray} {own : String} {D MC MS : Nat} {E : f_E} {ci h0 : Nat} {Po : Nat → va_W → Prop} {G : k_G} (hR : RulK cc own D MC MS E ci h0 Po G) : kr_putf cc own D MC MS E ci h0 Po G := hR.2.2.2.2.2.2.2.2.2.2.2.2.2.2.2.2.2.2.2.1
theorem j_getf {cc : ByteArray} {own : String} {D MC MS : Nat} {E : f_E} {ci h0 : Nat} {Po : Nat → va_W → Prop} {G : k_G} (hR : RulK cc own D MC MS E ci h0 Po G) : kr_getf cc own D MC MS E ci h0 Po G := hR.2.2.2.2.2.2.2.2.2.2.2.2.2.2.2.2.2.2.2.2.1
theorem j_max {cc : ByteArray} {own : String} {D MC MS : Nat} {E : f_E} {ci h0 : Nat} {Po : Nat → va_W → Prop} {G : k_G} (hR : RulK cc own D MC MS E ci h0 Po G) : kr_max cc own D MC MS E ci h0 Po G := hR.2.2.2.2.2.2.2.2.2.2.2.2.2.2.2.2.2.2.2.2.2.1
theorem j_init {cc : ByteArray} {own : String} {D MC MS : Nat} {E : f_E} {ci h0 : Nat} {Po : Nat → va_W → Prop} {G : k_G} (hR : RulK cc own D MC MS E ci h0 Po G) : kr_init cc own D MC MS E ci h0 Po G := hR.2.2.2.2.2.2.2.2.2.2.2.2.2.2.2.2.2.2.2.2.2.2.1
theorem j_alen {cc : ByteArray} {own : String} {D MC MS : Nat} {E : f_E} {ci h0 : Nat} {Po : Nat → va_W → Prop} {G : k_G} (hR : RulK cc own D MC MS E ci h0 Po G) : kr_alen cc own D MC MS E ci h0 Po G := hR.2.2.2.2.2.2.2.2.2.2.2.2.2.2.2.2.2.2.2.2.2.2.2.1
theorem j_astq {cc : ByteArray} {own : String} {D MC MS : Nat} {E : f_E} {ci h0 : Nat} {Po : Nat → va_W → Prop} {G : k_G} (hR : RulK cc own D MC MS E ci h0 Po G) : kr_astq cc own D MC MS E ci h0 Po G := hR.2.2.2.2.2.2.2.2.2.2.2.2.2.2.2.2.2.2.2.2.2.2.2.2.1
theorem j_fm {cc : ByteArray} {own : String} {D MC MS : Nat} {E : f_E} {ci h0 : Nat} {Po : Nat → va_W → Prop} {G : k_G} (hR : RulK cc own D MC MS E ci h0 Po G) : kr_fm cc own D MC MS E ci h0 Po G := hR.2.2.2.2.2.2.2.2.2.2.2.2.2.2.2.2.2.2.2.2.2.2.2.2.2.1
theorem j_ret {cc : ByteArray} {own : String} {D MC MS : Nat} {E : f_E} {ci h0 : Nat} {Po : Nat → va_W → Prop} {G : k_G} (hR : RulK cc own D MC MS E ci h0 Po G) : kr_ret cc own D MC MS E ci h0 Po G := hR.2.2.2.2.2.2.2.2.2.2.2.2.2.2.2.2.2.2.2.2.2.2.2.2.2.2.1
theorem j_conv {cc : ByteArray} {own : String} {D MC MS : Nat} {E : f_E} {ci h0 : Nat} {Po : Nat → va_W → Prop} {G : k_G} (hR : RulK cc own D MC MS E ci h0 Po G) : kr_conv cc own D MC MS E ci h0 Po G := hR.2.2.2.2.2.2.2.2.2.2.2.2.2.2.2.2.2.2.2.2.2.2.2.2.2.2.2

theorem va_P.left {D : va_G} {cl : List vw_C} {a b : va_W} {H : Heap} (h : va_P D cl (a ++ b) H) : va_P D cl a H := fun k q hk => h k q (by rw [List.getElem?_append_left (List.getElem?_eq_some_iff.mp hk).1]; exact hk)
theorem va_P.right {D : va_G} {cl : List vw_C} {a b : va_W} {H : Heap} (h : va_P D cl (a ++ b) H) : va_P D cl b H := fun k q hk => h (a.length + k) q (by rw [List.getElem?_append_right (by omega)]; rw [show a.length + k - a.length = k from by omega]; exact hk)
theorem va_D.left {A : Nat → Prop} {a b : va_W} (h : va_D A (a ++ b)) : va_D A a := ⟨fun i j p q hi hj => h.1 i j p q (by rw [List.getElem?_append_left (List.getElem?_eq_some_iff.mp hi).1]; exact hi) (by rw [List.getElem?_append_left (List.getElem?_eq_some_iff.mp hj).1]; exact hj), fun k q hk => h.2 k q (by rw [List.getElem?_append_left (List.getElem?_eq_some_iff.mp hk).1]; exact hk)⟩
theorem va_D.rightA {A : Nat → Prop} {a b : va_W} (h : va_D A (a ++ b)) : ∀ (k : Nat) (q : Nat × va_E), b[k]? = some q → A q.1 := fun k q hk => h.2 (a.length + k) q (by rw [List.getElem?_append_right (by omega)]; rw [show a.length + k - a.length = k from by omega]; exact hk)
/-- what stands in front keeps, what is behind is made anew out of its own cells and new ones -/
theorem k_join {D : va_G} {cl : List vw_C} {A A1 : Nat → Prop} {ws b w : va_W} {H H1 : Heap} (hP : va_P D cl (ws ++ b) H) (hD : va_D A (ws ++ b)) (hA1 : ∀ q, A1 q → (∃ (k : Nat) (x : Nat × va_E), b[k]? = some x ∧ q = x.1) ∨ H.size ≤ q) (hA : ∀ q, A1 q → A q) (hk : ∀ q : Nat, q < H.size → ¬ A1 q → H1[q]? = H[q]?) (hPw : va_P D cl w H1) (hDw : va_D A1 w) : va_P D cl (ws ++ w) H1 ∧ va_D A (ws ++ w) := by
  have hno : ∀ (k : Nat) (x : Nat × va_E), ws[k]? = some x → x.1 < H.size ∧ ¬ A1 x.1 := by
    intro k x hx
    have hlt : x.1 < H.size := (hP.left k x hx).lt
    refine ⟨hlt, fun h => ?_⟩
    rcases hA1 _ h with ⟨k2, y, hy, he⟩ | h
    · have hkl := (List.getElem?_eq_some_iff.mp hx).1
      have := hD.1 k (ws.length + k2) x y (by rw [List.getElem?_append_left hkl]; exact hx) (by rw [List.getElem?_append_right (by omega), show ws.length + k2 - ws.length = k2 from by omega]; exact hy) he
      omega
    · omega
  have hsame : ∀ (k : Nat) (x : Nat × va_E), ws[k]? = some x → H1[x.1]? = H[x.1]? := fun k x hx => hk _ (hno k x hx).1 (hno k x hx).2
  refine ⟨(hP.left.kept hsame).app hPw, fun i j p q hi hj hpq => ?_, fun k q hk2 => ?_⟩
  · by_cases h1 : i < ws.length
    · rw [List.getElem?_append_left h1] at hi
      by_cases h2 : j < ws.length
      · rw [List.getElem?_append_left h2] at hj
        exact hD.left.1 i j p q hi hj hpq
      · rw [List.getElem?_append_right (by omega)] at hj
        exact absurd (hpq ▸ hDw.2 _ q hj) (hno i p hi).2
    · rw [List.getElem?_append_right (by omega)] at hi
      by_cases h2 : j < ws.length
      · rw [List.getElem?_append_left h2] at hj
        exact absurd (hpq ▸ hDw.2 _ p hi) (hno j q hj).2
      · rw [List.getElem?_append_right (by omega)] at hj
        have := hDw.1 _ _ p q hi hj hpq
        omega
  · by_cases h1 : k < ws.length
    · rw [List.getElem?_append_left h1] at hk2
      exact hD.left.2 k q hk2
    · rw [List.getElem?_append_right (by omega)] at hk2
      exact hA _ (hDw.2 _ q hk2)
section CONS
variable {p : Program} {l : Launch} {e : Env} {s : State} {m : MethodId} {args : Array Value} {below : List Frame} {meth : Method} {c : Code} {Q : State → Prop} {A : Nat → Prop} {E : f_E} {nL : Nat} {cc : ByteArray} {own : String} {D MC MS ci h0 : Nat} {Po : Nat → va_W → Prop}
def k_GG (p : Program) (e : Env) (D MC MS : Nat) (s : State) (m : MethodId) (args : Array Value) (below : List Frame) (meth : Method) (c : Code) (Q : State → Prop) (A : Nat → Prop) (E : f_E) (ci h0 nL : Nat) : k_G := fun pc L st σ => ∀ (H : Heap) (locs : List Loc) (ls : Array Slot), va_P E.2.1 vwCl ((h0, .inr (ci, σ.1)) :: σ.2.1) H → va_D A ((h0, .inr (ci, σ.1)) :: σ.2.1) → va_S A s.heap H locs → f_ls ls nL L → σ.2.2.1 ≤ MC → σ.2.2.2 ≤ MS → W p E.1 e (k_rm D MC MS) s m args below meth c H locs σ.2.2.1 σ.2.2.2 Q (F0 m pc ls st)
/-- behind the call of a constructor -/
theorem kk_call {R : Room} {H : Heap} {locs : List Loc} {cells slots mc ms q0 : Nat} {pc : Nat} {ls : Array Slot} {rest st0 : List Value} {a : Array Value} {A0 A1 : Nat → Prop} {H0 : Heap} {P2 : Nat → va_W → Prop} (hr : va_Run p l e R s m args below meth c H locs cells slots mc ms (F0 m pc ls st0) rest (k_Q E q0 P2 A1 a) A1) (hS : va_S A0 H0 H locs) (hA : ∀ q, A1 q → A0 q)
    (k9 : ∀ (w : va_W) (H1 : Heap) (locs1 : List Loc), P2 q0 w → va_P E.2.1 vwCl w H1 → va_D A1 w → va_S A0 H0 H1 locs1 → (∀ q, q < H.size → ¬ A1 q → H1[q]? = H[q]?) → W p l e R s m args below meth c H1 locs1 (cells + mc) (slots + ms) Q (F0 m (pc + 3) ls rest)) : W p l e R s m args below meth c H locs cells slots Q (F0 m pc ls st0) := by
  intro T hT X
  obtain ⟨v, st₀, t, T', L, h0, X', hL, e1, e2, ⟨⟨w, hv, hp, hb, hd, hk8⟩, hz, hk⟩, st⟩ := hr T hT X
  cases hv
  rw [h0] at hz hk
  obtain ⟨t2, a1, b1⟩ := k9 w T'.heap (locs ++ L) hp (by rw [e1]; exact hb) hd
    ⟨Nat.le_trans hS.1 (by rw [e1]; exact hz), fun q h1 h2 => by rw [e1, hk q (Nat.lt_of_lt_of_le h1 hS.1) (fun z => h2 (hA q z))]; exact hS.2.1 q h1 h2, fun q hq => by
      rcases List.mem_append.mp hq with h | h
      · exact hS.2.2 q h
      · exact hA _ (hL q h)⟩ (fun q h1 h2 => by rw [e1]; exact hk q h1 h2) T' rfl X'
  exact ⟨t2, st t2 a1, b1⟩
theorem ki_pay {own : String} {index : Nat} {Y : f_Y} {n d mc ms : Nat} (hts : ∀ w ∈ tb, w.before args s = true) (hc : f_LC Y) (hh : f_hd Y n) (hd : d + 1 ≤ D) (hl : (Cond.methodLink own index Y.1).before args s = true) : CallB (k_rm D MC MS) s args own index Y.1 Y.2.1 Y.2.2.1 Y.2.2.2 (Cond.code Y.1 Y.2.1 Y.2.2.1 Y.2.2.2 :: tb) (k_rm d mc ms) mc ms n := by
  refine callB_of (Ts := tb) n hts (fun w hw => ?_) rfl rfl rfl (hts _ hc.2) hl hh.1 ⟨hd, ?_⟩
  · rcases List.mem_cons.mp hw with h | h
    · subst h; exact ⟨hc.1, tb_good _ hc.1⟩
    · exact ⟨h, tb_good _ h⟩
  · have := hh.2
    show 8 + (Y.2.2.1 + 11) + 60 * d ≤ 60 * D
    omega
theorem ki_payN {own host : String} {index : Nat} {Y : f_Y} {n d mc ms : Nat} (hts : ∀ w ∈ tb, w.before args s = true) (hc : f_LC Y) (hh : f_hd Y n) (hd : d + 1 ≤ D) (hl : va_Nw (.methodLinkNest own index Y.1 host) s) : va_CN (k_rm D MC MS) s args own index Y.1 host Y.2.1 Y.2.2.1 Y.2.2.2 (Cond.code Y.1 Y.2.1 Y.2.2.1 Y.2.2.2 :: tb) (k_rm d mc ms) mc ms n := by
  refine va_cnB (Ts := tb) n hts (fun w hw => ?_) rfl rfl rfl hl (hts _ hc.2) hh.1 ⟨hd, ?_⟩
  · rcases List.mem_cons.mp hw with h | h
    · subst h; exact ⟨hc.1, tb_good _ hc.1⟩
    · exact ⟨h, tb_good _ h⟩
  · have := hh.2
    show 8 + (Y.2.2.1 + 11) + 60 * d ≤ 60 * D
    omega
theorem k_cI {D : va_G} {a b : ClassId} {t : ClassId × FieldType} {s : State} (hK : va_K D vwCl ([(a, .int), t] ++ [(b, .int)]) s) : b = a := by
  have h0 := (hK.2 0 (a, .int) rfl).2
  have h1 := (hK.2 2 (b, .int) rfl).2
  exact Option.some.inj ((show s.vm.findClass _ = some b from h1).symm.trans (show s.vm.findClass _ = some a from h0))
theorem k_cQ {D : va_G} {a b : ClassId} {t : ClassId × FieldType} {s : State} (hK : va_K D vwCl ([t, (a, .object RX2)] ++ [(b, .object RX2)]) s) : b = a := by
  obtain ⟨_, _, _, _, _, h0⟩ := (hK.2 1 (a, .object RX2) rfl).2
  obtain ⟨_, _, _, _, _, h1⟩ := (hK.2 2 (b, .object RX2) rfl).2
  exact Option.some.inj (h1.symm.trans h0)

theorem t_kiconst (hx : p.tables.exec = Jvm.exec) (hb : c.code = cc) (hml : c.maxLocals = nL) (hown : s.vm.findClass own = some m.cls) (hts : ∀ w ∈ tb, w.before args s = true) (hN : f_NW s) (hK : f_K E s) (hO : va_AO RX2 s) (hmn : meth.name = "<init>") (hA2 : ∀ q, s.heap.size ≤ q → A q) : kr_iconst cc own D MC MS E ci h0 Po (k_GG p e D MC MS s m args below meth c Q A E ci h0 nL) := by
  intro pc L st σ n v hd h0 k H locs ls hP hD hS hl hkc hns
  exact lv_iconst hx hb hd h0 (k H locs ls hP hD hS hl hkc hns)
theorem t_kbipush (hx : p.tables.exec = Jvm.exec) (hb : c.code = cc) (hml : c.maxLocals = nL) (hown : s.vm.findClass own = some m.cls) (hts : ∀ w ∈ tb, w.before args s = true) (hN : f_NW s) (hK : f_K E s) (hO : va_AO RX2 s) (hmn : meth.name = "<init>") (hA2 : ∀ q, s.heap.size ≤ q → A q) : kr_bipush cc own D MC MS E ci h0 Po (k_GG p e D MC MS s m args below meth c Q A E ci h0 nL) := by
  intro pc L st σ n v hd h0 k H locs ls hP hD hS hl hkc hns
  exact lv_bipush hx hb hd h0 (k H locs ls hP hD hS hl hkc hns)
theorem t_ksipush (hx : p.tables.exec = Jvm.exec) (hb : c.code = cc) (hml : c.maxLocals = nL) (hown : s.vm.findClass own = some m.cls) (hts : ∀ w ∈ tb, w.before args s = true) (hN : f_NW s) (hK : f_K E s) (hO : va_AO RX2 s) (hmn : meth.name = "<init>") (hA2 : ∀ q, s.heap.size ≤ q → A q) : kr_sipush cc own D MC MS E ci h0 Po (k_GG p e D MC MS s m args below meth c Q A E ci h0 nL) := by
  intro pc L st σ n v hd h0 k H locs ls hP hD hS hl hkc hns
  exact lv_sipush hx hb hd h0 (k H locs ls hP hD hS hl hkc hns)
theorem t_knull (hx : p.tables.exec = Jvm.exec) (hb : c.code = cc) (hml : c.maxLocals = nL) (hown : s.vm.findClass own = some m.cls) (hts : ∀ w ∈ tb, w.before args s = true) (hN : f_NW s) (hK : f_K E s) (hO : va_AO RX2 s) (hmn : meth.name = "<init>") (hA2 : ∀ q, s.heap.size ≤ q → A q) : kr_null cc own D MC MS E ci h0 Po (k_GG p e D MC MS s m args below meth c Q A E ci h0 nL) := by
  intro pc L st σ hd k H locs ls hP hD hS hl hkc hns
  exact lv_null hx hb hd (k H locs ls hP hD hS hl hkc hns)
theorem t_kdup (hx : p.tables.exec = Jvm.exec) (hb : c.code = cc) (hml : c.maxLocals = nL) (hown : s.vm.findClass own = some m.cls) (hts : ∀ w ∈ tb, w.before args s = true) (hN : f_NW s) (hK : f_K E s) (hO : va_AO RX2 s) (hmn : meth.name = "<init>") (hA2 : ∀ q, s.heap.size ≤ q → A q) : kr_dup cc own D MC MS E ci h0 Po (k_GG p e D MC MS s m args below meth c Q A E ci h0 nL) := by
  intro pc L st σ v hd h0 k H locs ls hP hD hS hl hkc hns
  exact lv_dup hx hb hd h0 (k H locs ls hP hD hS hl hkc hns)
theorem t_kgoto (hx : p.tables.exec = Jvm.exec) (hb : c.code = cc) (hml : c.maxLocals = nL) (hown : s.vm.findClass own = some m.cls) (hts : ∀ w ∈ tb, w.before args s = true) (hN : f_NW s) (hK : f_K E s) (hO : va_AO RX2 s) (hmn : meth.name = "<init>") (hA2 : ∀ q, s.heap.size ≤ q → A q) : kr_goto cc own D MC MS E ci h0 Po (k_GG p e D MC MS s m args below meth c Q A E ci h0 nL) := by
  intro pc L st σ off tgt hd ht k H locs ls hP hD hS hl hkc hns
  exact lv_goto hx hb hd ht (k H locs ls hP hD hS hl hkc hns)
theorem t_kicmp_ge (hx : p.tables.exec = Jvm.exec) (hb : c.code = cc) (hml : c.maxLocals = nL) (hown : s.vm.findClass own = some m.cls) (hts : ∀ w ∈ tb, w.before args s = true) (hN : f_NW s) (hK : f_K E s) (hO : va_AO RX2 s) (hmn : meth.name = "<init>") (hA2 : ∀ q, s.heap.size ≤ q → A q) : kr_icmp_ge cc own D MC MS E ci h0 Po (k_GG p e D MC MS s m args below meth c Q A E ci h0 nL) := by
  intro pc L st σ off tgt x y hd ht kt kf H locs ls hP hD hS hl hkc hns
  exact lv_icmp_ge hx hb hd ht (fun z => kt z H locs ls hP hD hS hl hkc hns) (fun z => kf z H locs ls hP hD hS hl hkc hns)
theorem t_kicmp_gt (hx : p.tables.exec = Jvm.exec) (hb : c.code = cc) (hml : c.maxLocals = nL) (hown : s.vm.findClass own = some m.cls) (hts : ∀ w ∈ tb, w.before args s = true) (hN : f_NW s) (hK : f_K E s) (hO : va_AO RX2 s) (hmn : meth.name = "<init>") (hA2 : ∀ q, s.heap.size ≤ q → A q) : kr_icmp_gt cc own D MC MS E ci h0 Po (k_GG p e D MC MS s m args below meth c Q A E ci h0 nL) := by
  intro pc L st σ off tgt x y hd ht kt kf H locs ls hP hD hS hl hkc hns
  exact lv_icmp_gt hx hb hd ht (fun z => kt z H locs ls hP hD hS hl hkc hns) (fun z => kf z H locs ls hP hD hS hl hkc hns)
theorem t_kiload_n (hx : p.tables.exec = Jvm.exec) (hb : c.code = cc) (hml : c.maxLocals = nL) (hown : s.vm.findClass own = some m.cls) (hts : ∀ w ∈ tb, w.before args s = true) (hN : f_NW s) (hK : f_K E s) (hO : va_AO RX2 s) (hmn : meth.name = "<init>") (hA2 : ∀ q, s.heap.size ≤ q → A q) : kr_iload_n cc own D MC MS E ci h0 Po (k_GG p e D MC MS s m args below meth c Q A E ci h0 nL) := by
  intro pc L st σ k x hd h0 k H locs ls hP hD hS hl hkc hns
  exact lv_iload_n hx hb hd rfl (hl.at h0) (k H locs ls hP hD hS hl hkc hns)
theorem t_kaload_n (hx : p.tables.exec = Jvm.exec) (hb : c.code = cc) (hml : c.maxLocals = nL) (hown : s.vm.findClass own = some m.cls) (hts : ∀ w ∈ tb, w.before args s = true) (hN : f_NW s) (hK : f_K E s) (hO : va_AO RX2 s) (hmn : meth.name = "<init>") (hA2 : ∀ q, s.heap.size ≤ q → A q) : kr_aload_n cc own D MC MS E ci h0 Po (k_GG p e D MC MS s m args below meth c Q A E ci h0 nL) := by
  intro pc L st σ k x hd h0 k H locs ls hP hD hS hl hkc hns
  exact lv_aload_n hx hb hd rfl (hl.at h0) (k H locs ls hP hD hS hl hkc hns)
theorem t_kaloadN_n (hx : p.tables.exec = Jvm.exec) (hb : c.code = cc) (hml : c.maxLocals = nL) (hown : s.vm.findClass own = some m.cls) (hts : ∀ w ∈ tb, w.before args s = true) (hN : f_NW s) (hK : f_K E s) (hO : va_AO RX2 s) (hmn : meth.name = "<init>") (hA2 : ∀ q, s.heap.size ≤ q → A q) : kr_aloadN_n cc own D MC MS E ci h0 Po (k_GG p e D MC MS s m args below meth c Q A E ci h0 nL) := by
  intro pc L st σ k hd h0 k H locs ls hP hD hS hl hkc hns
  exact lv_aload_nN hx hb hd rfl (hl.at h0) (k H locs ls hP hD hS hl hkc hns)
theorem t_kistore_n (hx : p.tables.exec = Jvm.exec) (hb : c.code = cc) (hml : c.maxLocals = nL) (hown : s.vm.findClass own = some m.cls) (hts : ∀ w ∈ tb, w.before args s = true) (hN : f_NW s) (hK : f_K E s) (hO : va_AO RX2 s) (hmn : meth.name = "<init>") (hA2 : ∀ q, s.heap.size ≤ q → A q) : kr_istore_n cc own D MC MS E ci h0 Po (k_GG p e D MC MS s m args below meth c Q A E ci h0 nL) := by
  intro pc L st σ k x hd h0 h1 k H locs ls hP hD hS hl hkc hns
  refine lv_istore_n hx hb hd rfl hl.1 (by rw [← hl.2]; exact h0) rfl (fun ls2 hl2 => ?_)
  exact k H locs ls2 hP hD hS (f_ls_set hl.2 h1 hl2) hkc hns
theorem t_kastore_n (hx : p.tables.exec = Jvm.exec) (hb : c.code = cc) (hml : c.maxLocals = nL) (hown : s.vm.findClass own = some m.cls) (hts : ∀ w ∈ tb, w.before args s = true) (hN : f_NW s) (hK : f_K E s) (hO : va_AO RX2 s) (hmn : meth.name = "<init>") (hA2 : ∀ q, s.heap.size ≤ q → A q) : kr_astore_n cc own D MC MS E ci h0 Po (k_GG p e D MC MS s m args below meth c Q A E ci h0 nL) := by
  intro pc L st σ k x hd h0 h1 k H locs ls hP hD hS hl hkc hns
  refine lv_astore_n hx hb hd rfl hl.1 (by rw [← hl.2]; exact h0) rfl (fun ls2 hl2 => ?_)
  exact k H locs ls2 hP hD hS (f_ls_set hl.2 h1 hl2) hkc hns
theorem t_kastoreN_n (hx : p.tables.exec = Jvm.exec) (hb : c.code = cc) (hml : c.maxLocals = nL) (hown : s.vm.findClass own = some m.cls) (hts : ∀ w ∈ tb, w.before args s = true) (hN : f_NW s) (hK : f_K E s) (hO : va_AO RX2 s) (hmn : meth.name = "<init>") (hA2 : ∀ q, s.heap.size ≤ q → A q) : kr_astoreN_n cc own D MC MS E ci h0 Po (k_GG p e D MC MS s m args below meth c Q A E ci h0 nL) := by
  intro pc L st σ k hd h0 h1 k H locs ls hP hD hS hl hkc hns
  refine lv_astore_nN hx hb hd rfl hl.1 (by rw [← hl.2]; exact h0) rfl (fun ls2 hl2 => ?_)
  exact k H locs ls2 hP hD hS (f_ls_set hl.2 h1 hl2) hkc hns
theorem t_kiinc (hx : p.tables.exec = Jvm.exec) (hb : c.code = cc) (hml : c.maxLocals = nL) (hown : s.vm.findClass own = some m.cls) (hts : ∀ w ∈ tb, w.before args s = true) (hN : f_NW s) (hK : f_K E s) (hO : va_AO RX2 s) (hmn : meth.name = "<init>") (hA2 : ∀ q, s.heap.size ≤ q → A q) : kr_iinc cc own D MC MS E ci h0 Po (k_GG p e D MC MS s m args below meth c Q A E ci h0 nL) := by
  intro pc L st σ k n x v hd h0 h1 h2 kk0 H locs ls hP hD hS hl hkc hns
  obtain ⟨q, hq⟩ := List.getElem?_of_mem ((f_lv_mem L 0 (k, .int x)).mpr ⟨k, by simp, h0⟩)
  have hlt : k < nL := by rw [← hl.2]; exact (List.getElem?_eq_some_iff.mp h0).1
  refine lv_iinc hx hb hd hl.1 hq h1 hlt rfl (fun ls2 hl2 => ?_)
  exact kk0 H locs ls2 hP hD hS (f_ls_set hl.2 h2 hl2) hkc hns
theorem t_koinit (hx : p.tables.exec = Jvm.exec) (hb : c.code = cc) (hml : c.maxLocals = nL) (hown : s.vm.findClass own = some m.cls) (hts : ∀ w ∈ tb, w.before args s = true) (hN : f_NW s) (hK : f_K E s) (hO : va_AO RX2 s) (hmn : meth.name = "<init>") (hA2 : ∀ q, s.heap.size ≤ q → A q) : kr_oinit cc own D MC MS E ci h0 Po (k_GG p e D MC MS s m args below meth c Q A E ci h0 nL) := by
  intro pc L rest σ i a hd h10 h11 h12 kk0 H locs ls hP hD hS hl hkc hns
  have h9 : 2 * (F0 m pc ls (.ref a :: rest)).monitorRoom + (rest.map fun v => v.category).sum + 12 ≤ (k_rm D MC MS).locals := by
    show 2 * 0 + _ + 12 ≤ 60 * D
    omega
  exact W.objInit hx hb hown (hts _ h10) (hts _ tb_oi1) (hts _ tb_oi2) (g := F0 m pc ls (.ref a :: rest)) rfl (hl.1.1.trans hml.symm) rfl hd h11 h9 (kk0 H locs ls hP hD hS hl hkc hns)
theorem t_knew (hx : p.tables.exec = Jvm.exec) (hb : c.code = cc) (hml : c.maxLocals = nL) (hown : s.vm.findClass own = some m.cls) (hts : ∀ w ∈ tb, w.before args s = true) (hN : f_NW s) (hK : f_K E s) (hO : va_AO RX2 s) (hmn : meth.name = "<init>") (hA2 : ∀ q, s.heap.size ≤ q → A q) : kr_new cc own D MC MS E ci h0 Po (k_GG p e D MC MS s m args below meth c Q A E ci h0 nL) := by
  intro pc L rest fs R k n i c2 N fs2 hd h10 h11 h12 kk0 H locs ls hP hD hS hl hkc hns
  obtain ⟨C, T, ty, g1, g2, g3, g4, g5, g6, g7⟩ := h10
  refine va_new hx hb hts g2 ty g3 hown (hts _ g5) (hts _ g6) (hts _ g7) hK hP hD hS hA2 g1 g4 h11 h12 hd (fun q H1 hP1 hD1 hS1 => ?_)
  exact kk0 q H1 locs ls hP1 hD1 hS1 hl h11 h12
theorem t_knewa (hx : p.tables.exec = Jvm.exec) (hb : c.code = cc) (hml : c.maxLocals = nL) (hown : s.vm.findClass own = some m.cls) (hts : ∀ w ∈ tb, w.before args s = true) (hN : f_NW s) (hK : f_K E s) (hO : va_AO RX2 s) (hmn : meth.name = "<init>") (hA2 : ∀ q, s.heap.size ≤ q → A q) : kr_newa cc own D MC MS E ci h0 Po (k_GG p e D MC MS s m args below meth c Q A E ci h0 nL) := by
  intro pc L rest fs R k n x N hd h10 h11 h12 h13 h14 kk0 H locs ls hP hD hS hl hkc hns
  refine va_newa hx hb (hts _ tb_arI) (ty := .int) rfl hK hP hD hS hA2 (N' := N) (a0 := (N, .inl (fun _ => 0))) (fun cA => rfl) h10 h11 (by show N * 4 ≤ _; omega) h13 h14 hd (fun q cA H1 hK1 hP1 hD1 hS1 => ?_)
  have he := k_cI hK1
  subst he
  exact kk0 q H1 locs ls hP1 hD1 hS1 hl h13 h14
theorem t_knewq (hx : p.tables.exec = Jvm.exec) (hb : c.code = cc) (hml : c.maxLocals = nL) (hown : s.vm.findClass own = some m.cls) (hts : ∀ w ∈ tb, w.before args s = true) (hN : f_NW s) (hK : f_K E s) (hO : va_AO RX2 s) (hmn : meth.name = "<init>") (hA2 : ∀ q, s.heap.size ≤ q → A q) : kr_newq cc own D MC MS E ci h0 Po (k_GG p e D MC MS s m args below meth c Q A E ci h0 nL) := by
  intro pc L rest fs R k n i x N hd h10 h11 h12 h13 h14 h15 kk0 H locs ls hP hD hS hl hkc hns
  refine va_newq hx hb hown (hts _ h10) hO hK hP hD hS hA2 (N' := N) h11 h12 (by omega) h14 h15 hd (fun q cA H1 hK1 hP1 hD1 hS1 => ?_)
  have he := k_cQ hK1
  subst he
  exact kk0 q H1 locs ls hP1 hD1 hS1 hl h14 h15
theorem t_kputf (hx : p.tables.exec = Jvm.exec) (hb : c.code = cc) (hml : c.maxLocals = nL) (hown : s.vm.findClass own = some m.cls) (hts : ∀ w ∈ tb, w.before args s = true) (hN : f_NW s) (hK : f_K E s) (hO : va_AO RX2 s) (hmn : meth.name = "<init>") (hA2 : ∀ q, s.heap.size ≤ q → A q) : kr_putf cc own D MC MS E ci h0 Po (k_GG p e D MC MS s m args below meth c Q A E ci h0 nL) := by
  intro pc L rest fs R k n i kk v hd h10 h11 h12 kk0 H locs ls hP hD hS hl hkc hns
  obtain ⟨C, T, N, ty0, g1, g2, g3, g4, g5, g6, g7, g8, g9⟩ := h10
  refine va_putF hx hb hts g2 ty0 g5 g6 hown hK hP hD hS 0 rfl g1 kk g3 (hts _ g4) (fun _ h9 => h9) g7 hmn g8 (g5 _ g3) (g9 v h11).1 (g9 v h11).2 h12 hd (fun H1 locs1 hP1 hD1 hS1 => ?_)
  exact kk0 H1 locs1 ls hP1 hD1 hS1 hl hkc hns
theorem t_kgetf (hx : p.tables.exec = Jvm.exec) (hb : c.code = cc) (hml : c.maxLocals = nL) (hown : s.vm.findClass own = some m.cls) (hts : ∀ w ∈ tb, w.before args s = true) (hN : f_NW s) (hK : f_K E s) (hO : va_AO RX2 s) (hmn : meth.name = "<init>") (hA2 : ∀ q, s.heap.size ≤ q → A q) : kr_getf cc own D MC MS E ci h0 Po (k_GG p e D MC MS s m args below meth c Q A E ci h0 nL) := by
  intro pc L rest fs R k n i kk v hd h10 h11 kk0 H locs ls hP hD hS hl hkc hns
  obtain ⟨C, T, N, g1, g2, g3, g4⟩ := h10
  rcases g4 with g4 | ⟨host, g4⟩
  · exact va_get hx hb hts g2 hown hK hP 0 rfl g1 kk g3 (hts _ g4) (fun _ h9 => h9) h11 hd (kk0 H locs ls hP hD hS hl hkc hns)
  · exact va_getN hx hb hts g2 hown hK hP 0 rfl g1 kk g3 (hN.use _ g4) (fun _ h9 => h9) h11 hd (kk0 H locs ls hP hD hS hl hkc hns)
theorem t_kmax (hx : p.tables.exec = Jvm.exec) (hb : c.code = cc) (hml : c.maxLocals = nL) (hown : s.vm.findClass own = some m.cls) (hts : ∀ w ∈ tb, w.before args s = true) (hN : f_NW s) (hK : f_K E s) (hO : va_AO RX2 s) (hmn : meth.name = "<init>") (hA2 : ∀ q, s.heap.size ≤ q → A q) : kr_max cc own D MC MS E ci h0 Po (k_GG p e D MC MS s m args below meth c Q A E ci h0 nL) := by
  intro pc L rest σ i x y z hd h10 h11 h12 h13 kk0 H locs ls hP hD hS hl hkc hns
  subst h13
  have h9 : (rest.map fun v => v.category).sum + 13 ≤ (k_rm D MC MS).locals := by show _ ≤ 60 * D; omega
  exact va_mmax hx hb (hml.trans hl.1.1.symm) hown (hts _ h10) (hts _ tb_max1) (hts _ tb_math) (hts _ tb_max2) h11 h9 hkc hns hd (kk0 H locs ls hP hD hS hl hkc hns)
theorem t_kinit (hx : p.tables.exec = Jvm.exec) (hb : c.code = cc) (hml : c.maxLocals = nL) (hown : s.vm.findClass own = some m.cls) (hts : ∀ w ∈ tb, w.before args s = true) (hN : f_NW s) (hK : f_K E s) (hO : va_AO RX2 s) (hmn : meth.name = "<init>") (hA2 : ∀ q, s.heap.size ≤ q → A q) : kr_init cc own D MC MS E ci h0 Po (k_GG p e D MC MS s m args below meth c Q A E ci h0 nL) := by
  intro pc L rest fs R k n As i q c2 d mc ms fs2 Y P2 hd h10 h11 h12 h13 h14 h15 kk0 H locs ls hP hD hS hl hkc hns
  obtain ⟨lc, li, ln, lr, lk, lh⟩ := h10
  have hroom : 2 * (F0 m pc ls (As.reverse ++ .ref q :: rest)).monitorRoom + (rest.map fun v => v.category).sum ≤ 8 := lv_room h15
  have hPr : va_P E.2.1 vwCl [(q, .inr (c2, fs2))] H := va_P.right (a := (h0, .inr (ci, fs)) :: R) hP
  have hFB : FrameBlind (k_Pc E c2 fs2 As q H.size) := fun a U g mk z => by obtain ⟨q0, q1, q2, q3, q4, q5⟩ := z; exact ⟨q0, q1, q2, va_K.moved (u := U) (U := U.calling g mk a) (Vm.Alike.refl U.vm) q3, f_NW.same (u := U) (U := U.calling g mk a) rfl q4, va_AO.moved (u := U) (U := U.calling g mk a) (Vm.Alike.refl U.vm) q5⟩
  have hpre : PreS s H (k_Pc E c2 fs2 As q H.size) (.ref q :: As) := ⟨hFB, fun U hU hW => ⟨rfl, by rw [hU], by rw [hU]; exact hPr, va_K.moved hW.alike hK, hN.warm hW, va_AO.moved hW.alike hO⟩⟩
  have hqA : A q := va_D.rightA (a := (h0, .inr (ci, fs)) :: R) hD 0 (q, .inr (c2, fs2)) rfl
  have hA1 : ∀ x, k_A q H.size x → A x := fun x h => by
    rcases h with rfl | h
    · exact hqA
    · exact hA2 x (Nat.le_trans hS.1 h)
  have hY : (Y.1, Y.2.1, Y.2.2.1, none) = Y := by obtain ⟨a1, a2, a3, a4⟩ := Y; cases lr; rfl
  rw [← hY] at lc lh h11
  have fin : ∀ (w : va_W) (H1 : Heap) (locs1 : List Loc), P2 q w → va_P E.2.1 vwCl w H1 → va_D (k_A q H.size) w → va_S A s.heap H1 locs1 → (∀ x, x < H.size → ¬ k_A q H.size x → H1[x]? = H[x]?) → W p E.1 e (k_rm D MC MS) s m args below meth c H1 locs1 (k + mc) (n + ms) Q (F0 m (pc + 3) ls rest) := fun w H1 locs1 hp hPw hDw hS1 hkp => by
    obtain ⟨j1, j2⟩ := k_join (ws := (h0, .inr (ci, fs)) :: R) (b := [(q, .inr (c2, fs2))]) (w := w) hP hD (A1 := k_A q H.size) (fun x h => by
      rcases h with rfl | h
      · exact Or.inl ⟨0, _, rfl, rfl⟩
      · exact Or.inr h) hA1 hkp hPw hDw
    exact kk0 w hp H1 locs1 ls j1 j2 hS1 hl h13 h14
  rcases lk with lk | ⟨host, lk⟩
  · exact kk_call (va_runI ⟨hx, hb, hml, hown, hts⟩ (h11 q H.size) ⟨ki_pay hts lc lh h12 (hts _ lk), ln, hts _ li⟩ hpre rfl rfl hl.1.1 rfl hroom hd ⟨h13, h14⟩) hS hA1 fin
  · exact kk_call (va_runIN ⟨hx, hb, hml, hown, hts⟩ (h11 q H.size) ⟨ki_payN hts lc lh h12 (hN _ lk), ln, hts _ li⟩ hpre rfl rfl hl.1.1 rfl hroom hd ⟨h13, h14⟩) hS hA1 fin
theorem t_kalen (hx : p.tables.exec = Jvm.exec) (hb : c.code = cc) (hml : c.maxLocals = nL) (hown : s.vm.findClass own = some m.cls) (hts : ∀ w ∈ tb, w.before args s = true) (hN : f_NW s) (hK : f_K E s) (hO : va_AO RX2 s) (hmn : meth.name = "<init>") (hA2 : ∀ q, s.heap.size ≤ q → A q) : kr_alen cc own D MC MS E ci h0 Po (k_GG p e D MC MS s m args below meth c Q A E ci h0 nL) := by
  intro pc L rest fs R k n q0 a N f v hd h10 h11 kk0 H locs ls hP hD hS hl hkc hns
  exact va_alen hx hb hK hP (q0 + 1) 1 h10 (ty := .object RX2) rfl h11 hd (kk0 H locs ls hP hD hS hl hkc hns)
theorem t_kastq (hx : p.tables.exec = Jvm.exec) (hb : c.code = cc) (hml : c.maxLocals = nL) (hown : s.vm.findClass own = some m.cls) (hts : ∀ w ∈ tb, w.before args s = true) (hN : f_NW s) (hK : f_K E s) (hO : va_AO RX2 s) (hmn : meth.name = "<init>") (hA2 : ∀ q, s.heap.size ≤ q → A q) : kr_astq cc own D MC MS E ci h0 Po (k_GG p e D MC MS s m args below meth c Q A E ci h0 nL) := by
  intro pc L rest fs R k n q0 qk a N v vs f i hd h10 h11 h12 kk0 H locs ls hP hD hS hl hkc hns
  refine va_astq (r := (RX2, TX2, 5)) hx hb hK hP hD hS (q0 + 1) 1 (qk + 1) 2 h10 rfl h11 rfl h12 hd (fun H1 locs1 hP1 hD1 hS1 => ?_)
  exact kk0 H1 locs1 ls hP1 hD1 hS1 hl hkc hns
theorem t_kfm (hx : p.tables.exec = Jvm.exec) (hb : c.code = cc) (hml : c.maxLocals = nL) (hown : s.vm.findClass own = some m.cls) (hts : ∀ w ∈ tb, w.before args s = true) (hN : f_NW s) (hK : f_K E s) (hO : va_AO RX2 s) (hmn : meth.name = "<init>") (hA2 : ∀ q, s.heap.size ≤ q → A q) : kr_fm cc own D MC MS E ci h0 Po (k_GG p e D MC MS s m args below meth c Q A E ci h0 nL) := by
  intro ρ pc L rest fs R k n As i c2 d fsh S ad σ Y enc post2 hd h10 h11 h12 h13 h14 h15 h16 kk0 H locs ls hP hD hS hl hkc hns
  have he := f_wl_at (k_E E ad) S σ h11
  rw [f_cell_o h12] at he
  have hPr : f_P (k_E E ad) S σ H := va_P.right (a := (h0, .inr (ci, fs)) :: R) hP
  have hI : f_I (k_E E ad) S := fun i j hi hj hij => by
    have h1 := f_wl_at (k_E E ad) S σ hi
    have h2 := f_wl_at (k_E E ad) S σ hj
    have hg : ∀ (z : Nat) (x : Nat × va_E), (f_wl (k_E E ad) S σ)[z]? = some x → (((h0, .inr (ci, fs)) :: (R ++ f_wl (k_E E ad) S σ)) : va_W)[R.length + 1 + z]? = some x := fun z x hz => by
      rw [show R.length + 1 + z = (R.length + z) + 1 from by omega, List.getElem?_cons_succ, List.getElem?_append_right (by omega), show R.length + z - R.length = z from by omega]
      exact hz
    have := hD.1 _ _ _ _ (hg i _ h1) (hg j _ h2) hij
    omega
  have hAk : ∀ k, k < S.1 → A (ad k) := fun k hk => va_D.rightA (a := (h0, .inr (ci, fs)) :: R) hD k _ (f_wl_at (k_E E ad) S σ hk)
  obtain ⟨lc, li, ls9, lk, lh⟩ := h10
  obtain ⟨q, hq, hq2⟩ := Option.map_eq_some_iff.mp h13
  have hrec := va_recv (tys := f_tys E) hK hPr hq he
  rw [hq2] at hrec
  have hroom : 2 * (F0 m pc ls (As.reverse ++ .ref (ad 0) :: rest)).monitorRoom + (rest.map fun v => v.category).sum ≤ 8 := lv_room h16
  have hpre : PreV s H Y.1.cls (ad 0) (f_Pc (k_E E ad) S (.ref (ad 0) :: As) σ H.size) As := ⟨f_FB, hrec, fun U hU hW => ⟨rfl, by rw [hU], by rw [hU]; exact hPr, va_K.moved hW.alike hK, hN.warm hW, hI⟩⟩
  have hA1 : ∀ q, f_A (k_E E ad) S H.size q → A q := fun q h => by
    rcases h with ⟨k9, h8, rfl⟩ | h
    · exact hAk k9 h8
    · exact hA2 q (Nat.le_trans hS.1 h)
  have fin : ∀ (r : ρ) (u : f_Mem) (H1 : Heap) (locs1 : List Loc), post2 r u → f_P (k_E E ad) S u H1 → va_S A s.heap H1 locs1 → H.size ≤ H1.size → (∀ q, q < H.size → ¬ f_A (k_E E ad) S H.size q → H1[q]? = H[q]?) → W p E.1 e (k_rm D MC MS) s m args below meth c H1 locs1 k n Q (F0 m (pc + 3) ls ((enc r).toList ++ rest)) := fun r u H1 locs1 hp hPw hS1 _ hkp => by
    obtain ⟨j1, j2⟩ := k_join (ws := (h0, .inr (ci, fs)) :: R) (b := f_wl (k_E E ad) S σ) (w := f_wl (k_E E ad) S u) hP hD (A1 := f_A (k_E E ad) S H.size) (fun x h => by
      rcases h with ⟨k9, h8, rfl⟩ | h
      · exact Or.inl ⟨k9, _, f_wl_at (k_E E ad) S σ h8, rfl⟩
      · exact Or.inr h) hA1 hkp hPw (f_D hI (fun k9 h8 => Or.inl ⟨k9, h8, rfl⟩) u)
    exact kk0 r u hp H1 locs1 ls j1 j2 hS1 hl hkc hns
  rcases lk with lk | ⟨host, lk⟩
  · exact fc_callF (E := k_E E ad) (va_runV (C := Y.1.cls) ⟨hx, hb, hml, hown, hts⟩ (h14 H.size) ⟨kc_pay hts lc lh h15 (hts _ lk), hts _ li, hts _ ls9⟩ hpre rfl rfl hl.1.1 rfl hroom hd ⟨hkc, hns⟩) hS (fun q _ h => hA1 q h) hA1 fin
  · exact fc_callF (E := k_E E ad) (va_runVN (C := Y.1.cls) ⟨hx, hb, hml, hown, hts⟩ (h14 H.size) ⟨kc_payN hts lc lh h15 (hN _ lk), hts _ li, hts _ ls9⟩ hpre rfl rfl hl.1.1 rfl hroom hd ⟨hkc, hns⟩) hS (fun q _ h => hA1 q h) hA1 fin
theorem t_kconv (hx : p.tables.exec = Jvm.exec) (hb : c.code = cc) (hml : c.maxLocals = nL) (hown : s.vm.findClass own = some m.cls) (hts : ∀ w ∈ tb, w.before args s = true) (hN : f_NW s) (hK : f_K E s) (hO : va_AO RX2 s) (hmn : meth.name = "<init>") (hA2 : ∀ q, s.heap.size ≤ q → A q) : kr_conv cc own D MC MS E ci h0 Po (k_GG p e D MC MS s m args below meth c Q A E ci h0 nL) := by
  intro pc L rest fs R k n R2 h10 kk0 H locs ls hP hD hS hl hkc hns
  obtain ⟨j1, j2⟩ := h10 H A hP hD
  exact kk0 H locs ls j1 j2 hS hl hkc hns
end CONS
