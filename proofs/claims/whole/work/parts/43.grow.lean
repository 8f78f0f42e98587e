
def k_rm (d c v : Nat) : Room := { frames := d, cells := c, slots := v, locals := 60 * d }
section FLATC
variable {p : Program} {l : Launch} {e : Env} {s : State} {m : MethodId} {args : Array Value} {below : List Frame} {meth : Method} {c : Code} {Q : State → Prop} {A : Nat → Prop} {E : f_E} {S : f_S} {nL : Nat} {cc : ByteArray} {own : String} {D MC MS kk nn : Nat}
def f_GC (p : Program) (e : Env) (D MC MS kk nn : Nat) (s : State) (m : MethodId) (args : Array Value) (below : List Frame) (meth : Method) (c : Code) (Q : State → Prop) (A : Nat → Prop) (E : f_E) (S : f_S) (nL : Nat) : f_G := fun pc L st σ => ∀ (H : Heap) (locs : List Loc) (ls : Array Slot), f_P E S σ H → va_S A s.heap H locs → f_ls ls nL L → W p E.1 e (k_rm D MC MS) s m args below meth c H locs kk nn Q (F0 m pc ls st)
/-- behind a call: whatever it answers; what is not its own has stayed -/
theorem fc_callF {ρ : Type} {R : Room} {H : Heap} {locs : List Loc} {H0 : Heap} {pc : Nat} {ls : Array Slot} {rest st0 : List Value} {a : Array Value} {A0 A1 : Nat → Prop} {free : Addr → Prop} {enc : ρ → Option Value} {post : ρ → f_Mem → Prop} (hr : va_Run p l e R s m args below meth c H locs kk nn 0 0 (F0 m pc ls st0) rest (f_Q E S enc post A1 a) free) (hS : va_S A0 H0 H locs) (hA : ∀ q, q < H.size → A1 q → A0 q) (hf : ∀ q, free q → A0 q)
    (k9 : ∀ (r : ρ) (u : f_Mem) (H1 : Heap) (locs1 : List Loc), post r u → f_P E S u H1 → va_S A0 H0 H1 locs1 → H.size ≤ H1.size → (∀ q, q < H.size → ¬ A1 q → H1[q]? = H[q]?) → W p l e R s m args below meth c H1 locs1 kk nn Q (F0 m (pc + 3) ls ((enc r).toList ++ rest))) : W p l e R s m args below meth c H locs kk nn Q (F0 m pc ls st0) := by
  intro T hT X
  obtain ⟨v, st₀, t, T', L, h0, X', hL, e1, e2, ⟨⟨r, u, hv, hp, hb, hk9⟩, hz, hk⟩, st⟩ := hr T hT X
  cases hv
  rw [h0] at hz hk
  obtain ⟨t2, a1, b1⟩ := k9 r u T'.heap (locs ++ L) hp (by rw [e1]; exact hb)
    ⟨Nat.le_trans hS.1 (by rw [e1]; exact hz), fun q h1 h2 => by rw [e1, hk q (Nat.lt_of_lt_of_le h1 hS.1) (fun z => h2 (hA q (Nat.lt_of_lt_of_le h1 hS.1) z))]; exact hS.2.1 q h1 h2, fun q hq => by
      rcases List.mem_append.mp hq with h | h
      · exact hS.2.2 q h
      · exact hf _ (hL q h)⟩ (by rw [e1]; exact hz) (fun q h1 h2 => by rw [e1]; exact hk q h1 h2) T' rfl X'
  exact ⟨t2, st t2 a1, b1⟩
theorem fc_call {ρ : Type} {R : Room} {H : Heap} {locs : List Loc} {H0 : Heap} {pc : Nat} {ls : Array Slot} {rest st0 : List Value} {a : Array Value} {A0 A1 : Nat → Prop} {free : Addr → Prop} {enc : ρ → Option Value} {post : ρ → f_Mem → Prop} (hr : va_Run p l e R s m args below meth c H locs kk nn 0 0 (F0 m pc ls st0) rest (f_Q E S enc post A1 a) free) (hS : va_S A0 H0 H locs) (hA : ∀ q, q < H.size → A1 q → A0 q) (hf : ∀ q, free q → A0 q)
    (k9 : ∀ (r : ρ) (u : f_Mem) (H1 : Heap) (locs1 : List Loc), post r u → f_P E S u H1 → va_S A0 H0 H1 locs1 → W p l e R s m args below meth c H1 locs1 kk nn Q (F0 m (pc + 3) ls ((enc r).toList ++ rest))) : W p l e R s m args below meth c H locs kk nn Q (F0 m pc ls st0) :=
  fc_callF hr hS hA hf (fun r u H1 locs1 a b c _ _ => k9 r u H1 locs1 a b c)
theorem kc_pay {own : String} {index : Nat} {Y : f_Y} {n d : Nat} (hts : ∀ w ∈ tb, w.before args s = true) (hc : f_LC Y) (hh : f_hd Y n) (hd : d + 1 ≤ D) (hl : (Cond.methodLink own index Y.1).before args s = true) : CallB (k_rm D MC MS) s args own index Y.1 Y.2.1 Y.2.2.1 Y.2.2.2 (Cond.code Y.1 Y.2.1 Y.2.2.1 Y.2.2.2 :: tb) (f_rm d) 0 0 n := by
  refine callB_of (Ts := tb) n hts (fun w hw => ?_) rfl rfl rfl (hts _ hc.2) hl hh.1 ⟨hd, ?_⟩
  · rcases List.mem_cons.mp hw with h | h
    · subst h; exact ⟨hc.1, tb_good _ hc.1⟩
    · exact ⟨h, tb_good _ h⟩
  · have := hh.2
    show 8 + (Y.2.2.1 + 11) + 60 * d ≤ 60 * D
    omega
theorem kc_payN {own host : String} {index : Nat} {Y : f_Y} {n d : Nat} (hts : ∀ w ∈ tb, w.before args s = true) (hc : f_LC Y) (hh : f_hd Y n) (hd : d + 1 ≤ D) (hl : va_Nw (.methodLinkNest own index Y.1 host) s) : va_CN (k_rm D MC MS) s args own index Y.1 host Y.2.1 Y.2.2.1 Y.2.2.2 (Cond.code Y.1 Y.2.1 Y.2.2.1 Y.2.2.2 :: tb) (f_rm d) 0 0 n := by
  refine va_cnB (Ts := tb) n hts (fun w hw => ?_) rfl rfl rfl hl (hts _ hc.2) hh.1 ⟨hd, ?_⟩
  · rcases List.mem_cons.mp hw with h | h
    · subst h; exact ⟨hc.1, tb_good _ hc.1⟩
    · exact ⟨h, tb_good _ h⟩
  · have := hh.2
    show 8 + (Y.2.2.1 + 11) + 60 * d ≤ 60 * D
    omega

theorem q_iadd {ρ0 : Type} {ret : Option FieldType} {encR : ρ0 → Option Value} {post : ρ0 → f_Mem → Prop} (hx : p.tables.exec = Jvm.exec) (hb : c.code = cc) (hml : c.maxLocals = nL) (hown : s.vm.findClass own = some m.cls) (hts : ∀ w ∈ tb, w.before args s = true) (hN : f_NW s) (hK : f_K E s) (hI : f_I E S) (hA : ∀ k, k < S.1 → A (f_ad E k)) (hA2 : ∀ q, s.heap.size ≤ q → A q) (hkc : kk ≤ MC) (hns : nn ≤ MS) : r_iadd cc own ret D E S encR post (f_GC p e D MC MS kk nn s m args below meth c Q A E S nL) := by
  intro pc L st σ x y hd k H locs ls hP hS hl
  exact lv_iadd hx hb hd (k H locs ls hP hS hl)

theorem q_isub {ρ0 : Type} {ret : Option FieldType} {encR : ρ0 → Option Value} {post : ρ0 → f_Mem → Prop} (hx : p.tables.exec = Jvm.exec) (hb : c.code = cc) (hml : c.maxLocals = nL) (hown : s.vm.findClass own = some m.cls) (hts : ∀ w ∈ tb, w.before args s = true) (hN : f_NW s) (hK : f_K E s) (hI : f_I E S) (hA : ∀ k, k < S.1 → A (f_ad E k)) (hA2 : ∀ q, s.heap.size ≤ q → A q) (hkc : kk ≤ MC) (hns : nn ≤ MS) : r_isub cc own ret D E S encR post (f_GC p e D MC MS kk nn s m args below meth c Q A E S nL) := by
  intro pc L st σ x y hd k H locs ls hP hS hl
  exact lv_isub hx hb hd (k H locs ls hP hS hl)

theorem q_imul {ρ0 : Type} {ret : Option FieldType} {encR : ρ0 → Option Value} {post : ρ0 → f_Mem → Prop} (hx : p.tables.exec = Jvm.exec) (hb : c.code = cc) (hml : c.maxLocals = nL) (hown : s.vm.findClass own = some m.cls) (hts : ∀ w ∈ tb, w.before args s = true) (hN : f_NW s) (hK : f_K E s) (hI : f_I E S) (hA : ∀ k, k < S.1 → A (f_ad E k)) (hA2 : ∀ q, s.heap.size ≤ q → A q) (hkc : kk ≤ MC) (hns : nn ≤ MS) : r_imul cc own ret D E S encR post (f_GC p e D MC MS kk nn s m args below meth c Q A E S nL) := by
  intro pc L st σ x y hd k H locs ls hP hS hl
  exact lv_imul hx hb hd (k H locs ls hP hS hl)

theorem q_idiv {ρ0 : Type} {ret : Option FieldType} {encR : ρ0 → Option Value} {post : ρ0 → f_Mem → Prop} (hx : p.tables.exec = Jvm.exec) (hb : c.code = cc) (hml : c.maxLocals = nL) (hown : s.vm.findClass own = some m.cls) (hts : ∀ w ∈ tb, w.before args s = true) (hN : f_NW s) (hK : f_K E s) (hI : f_I E S) (hA : ∀ k, k < S.1 → A (f_ad E k)) (hA2 : ∀ q, s.heap.size ≤ q → A q) (hkc : kk ≤ MC) (hns : nn ≤ MS) : r_idiv cc own ret D E S encR post (f_GC p e D MC MS kk nn s m args below meth c Q A E S nL) := by
  intro pc L st σ x y hd h0 k H locs ls hP hS hl
  exact lv_idiv hx hb hd h0 (k H locs ls hP hS hl)

theorem q_irem {ρ0 : Type} {ret : Option FieldType} {encR : ρ0 → Option Value} {post : ρ0 → f_Mem → Prop} (hx : p.tables.exec = Jvm.exec) (hb : c.code = cc) (hml : c.maxLocals = nL) (hown : s.vm.findClass own = some m.cls) (hts : ∀ w ∈ tb, w.before args s = true) (hN : f_NW s) (hK : f_K E s) (hI : f_I E S) (hA : ∀ k, k < S.1 → A (f_ad E k)) (hA2 : ∀ q, s.heap.size ≤ q → A q) (hkc : kk ≤ MC) (hns : nn ≤ MS) : r_irem cc own ret D E S encR post (f_GC p e D MC MS kk nn s m args below meth c Q A E S nL) := by
  intro pc L st σ x y hd h0 k H locs ls hP hS hl
  exact lv_irem hx hb hd h0 (k H locs ls hP hS hl)

theorem q_iand {ρ0 : Type} {ret : Option FieldType} {encR : ρ0 → Option Value} {post : ρ0 → f_Mem → Prop} (hx : p.tables.exec = Jvm.exec) (hb : c.code = cc) (hml : c.maxLocals = nL) (hown : s.vm.findClass own = some m.cls) (hts : ∀ w ∈ tb, w.before args s = true) (hN : f_NW s) (hK : f_K E s) (hI : f_I E S) (hA : ∀ k, k < S.1 → A (f_ad E k)) (hA2 : ∀ q, s.heap.size ≤ q → A q) (hkc : kk ≤ MC) (hns : nn ≤ MS) : r_iand cc own ret D E S encR post (f_GC p e D MC MS kk nn s m args below meth c Q A E S nL) := by
  intro pc L st σ x y hd k H locs ls hP hS hl
  exact lv_iand hx hb hd (k H locs ls hP hS hl)

theorem q_ior {ρ0 : Type} {ret : Option FieldType} {encR : ρ0 → Option Value} {post : ρ0 → f_Mem → Prop} (hx : p.tables.exec = Jvm.exec) (hb : c.code = cc) (hml : c.maxLocals = nL) (hown : s.vm.findClass own = some m.cls) (hts : ∀ w ∈ tb, w.before args s = true) (hN : f_NW s) (hK : f_K E s) (hI : f_I E S) (hA : ∀ k, k < S.1 → A (f_ad E k)) (hA2 : ∀ q, s.heap.size ≤ q → A q) (hkc : kk ≤ MC) (hns : nn ≤ MS) : r_ior cc own ret D E S encR post (f_GC p e D MC MS kk nn s m args below meth c Q A E S nL) := by
  intro pc L st σ x y hd k H locs ls hP hS hl
  exact lv_ior hx hb hd (k H locs ls hP hS hl)

theorem q_ixor {ρ0 : Type} {ret : Option FieldType} {encR : ρ0 → Option Value} {post : ρ0 → f_Mem → Prop} (hx : p.tables.exec = Jvm.exec) (hb : c.code = cc) (hml : c.maxLocals = nL) (hown : s.vm.findClass own = some m.cls) (hts : ∀ w ∈ tb, w.before args s = true) (hN : f_NW s) (hK : f_K E s) (hI : f_I E S) (hA : ∀ k, k < S.1 → A (f_ad E k)) (hA2 : ∀ q, s.heap.size ≤ q → A q) (hkc : kk ≤ MC) (hns : nn ≤ MS) : r_ixor cc own ret D E S encR post (f_GC p e D MC MS kk nn s m args below meth c Q A E S nL) := by
  intro pc L st σ x y hd k H locs ls hP hS hl
  exact lv_ixor hx hb hd (k H locs ls hP hS hl)

theorem q_ishl {ρ0 : Type} {ret : Option FieldType} {encR : ρ0 → Option Value} {post : ρ0 → f_Mem → Prop} (hx : p.tables.exec = Jvm.exec) (hb : c.code = cc) (hml : c.maxLocals = nL) (hown : s.vm.findClass own = some m.cls) (hts : ∀ w ∈ tb, w.before args s = true) (hN : f_NW s) (hK : f_K E s) (hI : f_I E S) (hA : ∀ k, k < S.1 → A (f_ad E k)) (hA2 : ∀ q, s.heap.size ≤ q → A q) (hkc : kk ≤ MC) (hns : nn ≤ MS) : r_ishl cc own ret D E S encR post (f_GC p e D MC MS kk nn s m args below meth c Q A E S nL) := by
  intro pc L st σ x y hd k H locs ls hP hS hl
  exact lv_ishl hx hb hd (k H locs ls hP hS hl)

theorem q_ishr {ρ0 : Type} {ret : Option FieldType} {encR : ρ0 → Option Value} {post : ρ0 → f_Mem → Prop} (hx : p.tables.exec = Jvm.exec) (hb : c.code = cc) (hml : c.maxLocals = nL) (hown : s.vm.findClass own = some m.cls) (hts : ∀ w ∈ tb, w.before args s = true) (hN : f_NW s) (hK : f_K E s) (hI : f_I E S) (hA : ∀ k, k < S.1 → A (f_ad E k)) (hA2 : ∀ q, s.heap.size ≤ q → A q) (hkc : kk ≤ MC) (hns : nn ≤ MS) : r_ishr cc own ret D E S encR post (f_GC p e D MC MS kk nn s m args below meth c Q A E S nL) := by
  intro pc L st σ x y hd k H locs ls hP hS hl
  exact lv_ishr hx hb hd (k H locs ls hP hS hl)

theorem q_iushr {ρ0 : Type} {ret : Option FieldType} {encR : ρ0 → Option Value} {post : ρ0 → f_Mem → Prop} (hx : p.tables.exec = Jvm.exec) (hb : c.code = cc) (hml : c.maxLocals = nL) (hown : s.vm.findClass own = some m.cls) (hts : ∀ w ∈ tb, w.before args s = true) (hN : f_NW s) (hK : f_K E s) (hI : f_I E S) (hA : ∀ k, k < S.1 → A (f_ad E k)) (hA2 : ∀ q, s.heap.size ≤ q → A q) (hkc : kk ≤ MC) (hns : nn ≤ MS) : r_iushr cc own ret D E S encR post (f_GC p e D MC MS kk nn s m args below meth c Q A E S nL) := by
  intro pc L st σ x y v hd h0 k H locs ls hP hS hl
  exact lv_iushr hx hb hd h0 (k H locs ls hP hS hl)

theorem q_ladd {ρ0 : Type} {ret : Option FieldType} {encR : ρ0 → Option Value} {post : ρ0 → f_Mem → Prop} (hx : p.tables.exec = Jvm.exec) (hb : c.code = cc) (hml : c.maxLocals = nL) (hown : s.vm.findClass own = some m.cls) (hts : ∀ w ∈ tb, w.before args s = true) (hN : f_NW s) (hK : f_K E s) (hI : f_I E S) (hA : ∀ k, k < S.1 → A (f_ad E k)) (hA2 : ∀ q, s.heap.size ≤ q → A q) (hkc : kk ≤ MC) (hns : nn ≤ MS) : r_ladd cc own ret D E S encR post (f_GC p e D MC MS kk nn s m args below meth c Q A E S nL) := by
  intro pc L st σ x y hd k H locs ls hP hS hl
  exact lv_ladd hx hb hd (k H locs ls hP hS hl)

theorem q_lmul {ρ0 : Type} {ret : Option FieldType} {encR : ρ0 → Option Value} {post : ρ0 → f_Mem → Prop} (hx : p.tables.exec = Jvm.exec) (hb : c.code = cc) (hml : c.maxLocals = nL) (hown : s.vm.findClass own = some m.cls) (hts : ∀ w ∈ tb, w.before args s = true) (hN : f_NW s) (hK : f_K E s) (hI : f_I E S) (hA : ∀ k, k < S.1 → A (f_ad E k)) (hA2 : ∀ q, s.heap.size ≤ q → A q) (hkc : kk ≤ MC) (hns : nn ≤ MS) : r_lmul cc own ret D E S encR post (f_GC p e D MC MS kk nn s m args below meth c Q A E S nL) := by
  intro pc L st σ x y hd k H locs ls hP hS hl
  exact lv_lmul hx hb hd (k H locs ls hP hS hl)

theorem q_ldiv {ρ0 : Type} {ret : Option FieldType} {encR : ρ0 → Option Value} {post : ρ0 → f_Mem → Prop} (hx : p.tables.exec = Jvm.exec) (hb : c.code = cc) (hml : c.maxLocals = nL) (hown : s.vm.findClass own = some m.cls) (hts : ∀ w ∈ tb, w.before args s = true) (hN : f_NW s) (hK : f_K E s) (hI : f_I E S) (hA : ∀ k, k < S.1 → A (f_ad E k)) (hA2 : ∀ q, s.heap.size ≤ q → A q) (hkc : kk ≤ MC) (hns : nn ≤ MS) : r_ldiv cc own ret D E S encR post (f_GC p e D MC MS kk nn s m args below meth c Q A E S nL) := by
  intro pc L st σ x y hd h0 k H locs ls hP hS hl
  exact lv_ldiv hx hb hd h0 (k H locs ls hP hS hl)

theorem q_lrem {ρ0 : Type} {ret : Option FieldType} {encR : ρ0 → Option Value} {post : ρ0 → f_Mem → Prop} (hx : p.tables.exec = Jvm.exec) (hb : c.code = cc) (hml : c.maxLocals = nL) (hown : s.vm.findClass own = some m.cls) (hts : ∀ w ∈ tb, w.before args s = true) (hN : f_NW s) (hK : f_K E s) (hI : f_I E S) (hA : ∀ k, k < S.1 → A (f_ad E k)) (hA2 : ∀ q, s.heap.size ≤ q → A q) (hkc : kk ≤ MC) (hns : nn ≤ MS) : r_lrem cc own ret D E S encR post (f_GC p e D MC MS kk nn s m args below meth c Q A E S nL) := by
  intro pc L st σ x y hd h0 k H locs ls hP hS hl
  exact lv_lrem hx hb hd h0 (k H locs ls hP hS hl)

theorem q_i2l {ρ0 : Type} {ret : Option FieldType} {encR : ρ0 → Option Value} {post : ρ0 → f_Mem → Prop} (hx : p.tables.exec = Jvm.exec) (hb : c.code = cc) (hml : c.maxLocals = nL) (hown : s.vm.findClass own = some m.cls) (hts : ∀ w ∈ tb, w.before args s = true) (hN : f_NW s) (hK : f_K E s) (hI : f_I E S) (hA : ∀ k, k < S.1 → A (f_ad E k)) (hA2 : ∀ q, s.heap.size ≤ q → A q) (hkc : kk ≤ MC) (hns : nn ≤ MS) : r_i2l cc own ret D E S encR post (f_GC p e D MC MS kk nn s m args below meth c Q A E S nL) := by
  intro pc L st σ x hd k H locs ls hP hS hl
  exact lv_i2l hx hb hd rfl (k H locs ls hP hS hl)

theorem q_l2i {ρ0 : Type} {ret : Option FieldType} {encR : ρ0 → Option Value} {post : ρ0 → f_Mem → Prop} (hx : p.tables.exec = Jvm.exec) (hb : c.code = cc) (hml : c.maxLocals = nL) (hown : s.vm.findClass own = some m.cls) (hts : ∀ w ∈ tb, w.before args s = true) (hN : f_NW s) (hK : f_K E s) (hI : f_I E S) (hA : ∀ k, k < S.1 → A (f_ad E k)) (hA2 : ∀ q, s.heap.size ≤ q → A q) (hkc : kk ≤ MC) (hns : nn ≤ MS) : r_l2i cc own ret D E S encR post (f_GC p e D MC MS kk nn s m args below meth c Q A E S nL) := by
  intro pc L st σ x hd k H locs ls hP hS hl
  exact lv_l2i hx hb hd rfl (k H locs ls hP hS hl)

theorem q_lcmp {ρ0 : Type} {ret : Option FieldType} {encR : ρ0 → Option Value} {post : ρ0 → f_Mem → Prop} (hx : p.tables.exec = Jvm.exec) (hb : c.code = cc) (hml : c.maxLocals = nL) (hown : s.vm.findClass own = some m.cls) (hts : ∀ w ∈ tb, w.before args s = true) (hN : f_NW s) (hK : f_K E s) (hI : f_I E S) (hA : ∀ k, k < S.1 → A (f_ad E k)) (hA2 : ∀ q, s.heap.size ≤ q → A q) (hkc : kk ≤ MC) (hns : nn ≤ MS) : r_lcmp cc own ret D E S encR post (f_GC p e D MC MS kk nn s m args below meth c Q A E S nL) := by
  intro pc L st σ x y hd k H locs ls hP hS hl
  exact W.lcmp hx hb hd (k H locs ls hP hS hl)

theorem q_iconst {ρ0 : Type} {ret : Option FieldType} {encR : ρ0 → Option Value} {post : ρ0 → f_Mem → Prop} (hx : p.tables.exec = Jvm.exec) (hb : c.code = cc) (hml : c.maxLocals = nL) (hown : s.vm.findClass own = some m.cls) (hts : ∀ w ∈ tb, w.before args s = true) (hN : f_NW s) (hK : f_K E s) (hI : f_I E S) (hA : ∀ k, k < S.1 → A (f_ad E k)) (hA2 : ∀ q, s.heap.size ≤ q → A q) (hkc : kk ≤ MC) (hns : nn ≤ MS) : r_iconst cc own ret D E S encR post (f_GC p e D MC MS kk nn s m args below meth c Q A E S nL) := by
  intro pc L st σ n v hd h0 k H locs ls hP hS hl
  exact lv_iconst hx hb hd h0 (k H locs ls hP hS hl)

theorem q_bipush {ρ0 : Type} {ret : Option FieldType} {encR : ρ0 → Option Value} {post : ρ0 → f_Mem → Prop} (hx : p.tables.exec = Jvm.exec) (hb : c.code = cc) (hml : c.maxLocals = nL) (hown : s.vm.findClass own = some m.cls) (hts : ∀ w ∈ tb, w.before args s = true) (hN : f_NW s) (hK : f_K E s) (hI : f_I E S) (hA : ∀ k, k < S.1 → A (f_ad E k)) (hA2 : ∀ q, s.heap.size ≤ q → A q) (hkc : kk ≤ MC) (hns : nn ≤ MS) : r_bipush cc own ret D E S encR post (f_GC p e D MC MS kk nn s m args below meth c Q A E S nL) := by
  intro pc L st σ n v hd h0 k H locs ls hP hS hl
  exact lv_bipush hx hb hd h0 (k H locs ls hP hS hl)

theorem q_sipush {ρ0 : Type} {ret : Option FieldType} {encR : ρ0 → Option Value} {post : ρ0 → f_Mem → Prop} (hx : p.tables.exec = Jvm.exec) (hb : c.code = cc) (hml : c.maxLocals = nL) (hown : s.vm.findClass own = some m.cls) (hts : ∀ w ∈ tb, w.before args s = true) (hN : f_NW s) (hK : f_K E s) (hI : f_I E S) (hA : ∀ k, k < S.1 → A (f_ad E k)) (hA2 : ∀ q, s.heap.size ≤ q → A q) (hkc : kk ≤ MC) (hns : nn ≤ MS) : r_sipush cc own ret D E S encR post (f_GC p e D MC MS kk nn s m args below meth c Q A E S nL) := by
  intro pc L st σ n v hd h0 k H locs ls hP hS hl
  exact lv_sipush hx hb hd h0 (k H locs ls hP hS hl)

theorem q_lconst {ρ0 : Type} {ret : Option FieldType} {encR : ρ0 → Option Value} {post : ρ0 → f_Mem → Prop} (hx : p.tables.exec = Jvm.exec) (hb : c.code = cc) (hml : c.maxLocals = nL) (hown : s.vm.findClass own = some m.cls) (hts : ∀ w ∈ tb, w.before args s = true) (hN : f_NW s) (hK : f_K E s) (hI : f_I E S) (hA : ∀ k, k < S.1 → A (f_ad E k)) (hA2 : ∀ q, s.heap.size ≤ q → A q) (hkc : kk ≤ MC) (hns : nn ≤ MS) : r_lconst cc own ret D E S encR post (f_GC p e D MC MS kk nn s m args below meth c Q A E S nL) := by
  intro pc L st σ n v hd h0 k H locs ls hP hS hl
  exact lv_lconst hx hb hd h0 (k H locs ls hP hS hl)

theorem q_ldc {ρ0 : Type} {ret : Option FieldType} {encR : ρ0 → Option Value} {post : ρ0 → f_Mem → Prop} (hx : p.tables.exec = Jvm.exec) (hb : c.code = cc) (hml : c.maxLocals = nL) (hown : s.vm.findClass own = some m.cls) (hts : ∀ w ∈ tb, w.before args s = true) (hN : f_NW s) (hK : f_K E s) (hI : f_I E S) (hA : ∀ k, k < S.1 → A (f_ad E k)) (hA2 : ∀ q, s.heap.size ≤ q → A q) (hkc : kk ≤ MC) (hns : nn ≤ MS) : r_ldc cc own ret D E S encR post (f_GC p e D MC MS kk nn s m args below meth c Q A E S nL) := by
  intro pc L st σ i v hd h0 k H locs ls hP hS hl
  exact lv_ldc hx hb hown (hts _ h0) hd (k H locs ls hP hS hl)

theorem q_ldcw {ρ0 : Type} {ret : Option FieldType} {encR : ρ0 → Option Value} {post : ρ0 → f_Mem → Prop} (hx : p.tables.exec = Jvm.exec) (hb : c.code = cc) (hml : c.maxLocals = nL) (hown : s.vm.findClass own = some m.cls) (hts : ∀ w ∈ tb, w.before args s = true) (hN : f_NW s) (hK : f_K E s) (hI : f_I E S) (hA : ∀ k, k < S.1 → A (f_ad E k)) (hA2 : ∀ q, s.heap.size ≤ q → A q) (hkc : kk ≤ MC) (hns : nn ≤ MS) : r_ldcw cc own ret D E S encR post (f_GC p e D MC MS kk nn s m args below meth c Q A E S nL) := by
  intro pc L st σ i v hd h0 k H locs ls hP hS hl
  exact lv_ldcw hx hb hown (hts _ h0) hd (k H locs ls hP hS hl)

theorem q_ldc2 {ρ0 : Type} {ret : Option FieldType} {encR : ρ0 → Option Value} {post : ρ0 → f_Mem → Prop} (hx : p.tables.exec = Jvm.exec) (hb : c.code = cc) (hml : c.maxLocals = nL) (hown : s.vm.findClass own = some m.cls) (hts : ∀ w ∈ tb, w.before args s = true) (hN : f_NW s) (hK : f_K E s) (hI : f_I E S) (hA : ∀ k, k < S.1 → A (f_ad E k)) (hA2 : ∀ q, s.heap.size ≤ q → A q) (hkc : kk ≤ MC) (hns : nn ≤ MS) : r_ldc2 cc own ret D E S encR post (f_GC p e D MC MS kk nn s m args below meth c Q A E S nL) := by
  intro pc L st σ i v hd h0 k H locs ls hP hS hl
  exact lv_ldc2 hx hb hown (hts _ h0) hd (k H locs ls hP hS hl)

theorem q_null {ρ0 : Type} {ret : Option FieldType} {encR : ρ0 → Option Value} {post : ρ0 → f_Mem → Prop} (hx : p.tables.exec = Jvm.exec) (hb : c.code = cc) (hml : c.maxLocals = nL) (hown : s.vm.findClass own = some m.cls) (hts : ∀ w ∈ tb, w.before args s = true) (hN : f_NW s) (hK : f_K E s) (hI : f_I E S) (hA : ∀ k, k < S.1 → A (f_ad E k)) (hA2 : ∀ q, s.heap.size ≤ q → A q) (hkc : kk ≤ MC) (hns : nn ≤ MS) : r_null cc own ret D E S encR post (f_GC p e D MC MS kk nn s m args below meth c Q A E S nL) := by
  intro pc L st σ hd k H locs ls hP hS hl
  exact lv_null hx hb hd (k H locs ls hP hS hl)

theorem q_dup {ρ0 : Type} {ret : Option FieldType} {encR : ρ0 → Option Value} {post : ρ0 → f_Mem → Prop} (hx : p.tables.exec = Jvm.exec) (hb : c.code = cc) (hml : c.maxLocals = nL) (hown : s.vm.findClass own = some m.cls) (hts : ∀ w ∈ tb, w.before args s = true) (hN : f_NW s) (hK : f_K E s) (hI : f_I E S) (hA : ∀ k, k < S.1 → A (f_ad E k)) (hA2 : ∀ q, s.heap.size ≤ q → A q) (hkc : kk ≤ MC) (hns : nn ≤ MS) : r_dup cc own ret D E S encR post (f_GC p e D MC MS kk nn s m args below meth c Q A E S nL) := by
  intro pc L st σ v hd h0 k H locs ls hP hS hl
  exact lv_dup hx hb hd h0 (k H locs ls hP hS hl)

theorem q_dup2 {ρ0 : Type} {ret : Option FieldType} {encR : ρ0 → Option Value} {post : ρ0 → f_Mem → Prop} (hx : p.tables.exec = Jvm.exec) (hb : c.code = cc) (hml : c.maxLocals = nL) (hown : s.vm.findClass own = some m.cls) (hts : ∀ w ∈ tb, w.before args s = true) (hN : f_NW s) (hK : f_K E s) (hI : f_I E S) (hA : ∀ k, k < S.1 → A (f_ad E k)) (hA2 : ∀ q, s.heap.size ≤ q → A q) (hkc : kk ≤ MC) (hns : nn ≤ MS) : r_dup2 cc own ret D E S encR post (f_GC p e D MC MS kk nn s m args below meth c Q A E S nL) := by
  intro pc L st σ v w hd h0 h1 k H locs ls hP hS hl
  exact lv_dup2_11 hx hb hd h0 h1 (k H locs ls hP hS hl)

theorem q_pop {ρ0 : Type} {ret : Option FieldType} {encR : ρ0 → Option Value} {post : ρ0 → f_Mem → Prop} (hx : p.tables.exec = Jvm.exec) (hb : c.code = cc) (hml : c.maxLocals = nL) (hown : s.vm.findClass own = some m.cls) (hts : ∀ w ∈ tb, w.before args s = true) (hN : f_NW s) (hK : f_K E s) (hI : f_I E S) (hA : ∀ k, k < S.1 → A (f_ad E k)) (hA2 : ∀ q, s.heap.size ≤ q → A q) (hkc : kk ≤ MC) (hns : nn ≤ MS) : r_pop cc own ret D E S encR post (f_GC p e D MC MS kk nn s m args below meth c Q A E S nL) := by
  intro pc L st σ v hd h0 k H locs ls hP hS hl
  exact lv_pop hx hb hd h0 (k H locs ls hP hS hl)

theorem q_icmp_eq {ρ0 : Type} {ret : Option FieldType} {encR : ρ0 → Option Value} {post : ρ0 → f_Mem → Prop} (hx : p.tables.exec = Jvm.exec) (hb : c.code = cc) (hml : c.maxLocals = nL) (hown : s.vm.findClass own = some m.cls) (hts : ∀ w ∈ tb, w.before args s = true) (hN : f_NW s) (hK : f_K E s) (hI : f_I E S) (hA : ∀ k, k < S.1 → A (f_ad E k)) (hA2 : ∀ q, s.heap.size ≤ q → A q) (hkc : kk ≤ MC) (hns : nn ≤ MS) : r_icmp_eq cc own ret D E S encR post (f_GC p e D MC MS kk nn s m args below meth c Q A E S nL) := by
  intro pc L st σ off tgt x y hd ht kt kf H locs ls hP hS hl
  exact lv_icmp_eq hx hb hd ht (fun z => kt z H locs ls hP hS hl) (fun z => kf z H locs ls hP hS hl)

theorem q_icmp_ne {ρ0 : Type} {ret : Option FieldType} {encR : ρ0 → Option Value} {post : ρ0 → f_Mem → Prop} (hx : p.tables.exec = Jvm.exec) (hb : c.code = cc) (hml : c.maxLocals = nL) (hown : s.vm.findClass own = some m.cls) (hts : ∀ w ∈ tb, w.before args s = true) (hN : f_NW s) (hK : f_K E s) (hI : f_I E S) (hA : ∀ k, k < S.1 → A (f_ad E k)) (hA2 : ∀ q, s.heap.size ≤ q → A q) (hkc : kk ≤ MC) (hns : nn ≤ MS) : r_icmp_ne cc own ret D E S encR post (f_GC p e D MC MS kk nn s m args below meth c Q A E S nL) := by
  intro pc L st σ off tgt x y hd ht kt kf H locs ls hP hS hl
  exact lv_icmp_ne hx hb hd ht (fun z => kt z H locs ls hP hS hl) (fun z => kf z H locs ls hP hS hl)

theorem q_icmp_lt {ρ0 : Type} {ret : Option FieldType} {encR : ρ0 → Option Value} {post : ρ0 → f_Mem → Prop} (hx : p.tables.exec = Jvm.exec) (hb : c.code = cc) (hml : c.maxLocals = nL) (hown : s.vm.findClass own = some m.cls) (hts : ∀ w ∈ tb, w.before args s = true) (hN : f_NW s) (hK : f_K E s) (hI : f_I E S) (hA : ∀ k, k < S.1 → A (f_ad E k)) (hA2 : ∀ q, s.heap.size ≤ q → A q) (hkc : kk ≤ MC) (hns : nn ≤ MS) : r_icmp_lt cc own ret D E S encR post (f_GC p e D MC MS kk nn s m args below meth c Q A E S nL) := by
  intro pc L st σ off tgt x y hd ht kt kf H locs ls hP hS hl
  exact lv_icmp_lt hx hb hd ht (fun z => kt z H locs ls hP hS hl) (fun z => kf z H locs ls hP hS hl)

theorem q_icmp_ge {ρ0 : Type} {ret : Option FieldType} {encR : ρ0 → Option Value} {post : ρ0 → f_Mem → Prop} (hx : p.tables.exec = Jvm.exec) (hb : c.code = cc) (hml : c.maxLocals = nL) (hown : s.vm.findClass own = some m.cls) (hts : ∀ w ∈ tb, w.before args s = true) (hN : f_NW s) (hK : f_K E s) (hI : f_I E S) (hA : ∀ k, k < S.1 → A (f_ad E k)) (hA2 : ∀ q, s.heap.size ≤ q → A q) (hkc : kk ≤ MC) (hns : nn ≤ MS) : r_icmp_ge cc own ret D E S encR post (f_GC p e D MC MS kk nn s m args below meth c Q A E S nL) := by
  intro pc L st σ off tgt x y hd ht kt kf H locs ls hP hS hl
  exact lv_icmp_ge hx hb hd ht (fun z => kt z H locs ls hP hS hl) (fun z => kf z H locs ls hP hS hl)

theorem q_icmp_gt {ρ0 : Type} {ret : Option FieldType} {encR : ρ0 → Option Value} {post : ρ0 → f_Mem → Prop} (hx : p.tables.exec = Jvm.exec) (hb : c.code = cc) (hml : c.maxLocals = nL) (hown : s.vm.findClass own = some m.cls) (hts : ∀ w ∈ tb, w.before args s = true) (hN : f_NW s) (hK : f_K E s) (hI : f_I E S) (hA : ∀ k, k < S.1 → A (f_ad E k)) (hA2 : ∀ q, s.heap.size ≤ q → A q) (hkc : kk ≤ MC) (hns : nn ≤ MS) : r_icmp_gt cc own ret D E S encR post (f_GC p e D MC MS kk nn s m args below meth c Q A E S nL) := by
  intro pc L st σ off tgt x y hd ht kt kf H locs ls hP hS hl
  exact lv_icmp_gt hx hb hd ht (fun z => kt z H locs ls hP hS hl) (fun z => kf z H locs ls hP hS hl)

theorem q_icmp_le {ρ0 : Type} {ret : Option FieldType} {encR : ρ0 → Option Value} {post : ρ0 → f_Mem → Prop} (hx : p.tables.exec = Jvm.exec) (hb : c.code = cc) (hml : c.maxLocals = nL) (hown : s.vm.findClass own = some m.cls) (hts : ∀ w ∈ tb, w.before args s = true) (hN : f_NW s) (hK : f_K E s) (hI : f_I E S) (hA : ∀ k, k < S.1 → A (f_ad E k)) (hA2 : ∀ q, s.heap.size ≤ q → A q) (hkc : kk ≤ MC) (hns : nn ≤ MS) : r_icmp_le cc own ret D E S encR post (f_GC p e D MC MS kk nn s m args below meth c Q A E S nL) := by
  intro pc L st σ off tgt x y hd ht kt kf H locs ls hP hS hl
  exact lv_icmp_le hx hb hd ht (fun z => kt z H locs ls hP hS hl) (fun z => kf z H locs ls hP hS hl)

theorem q_if_eq {ρ0 : Type} {ret : Option FieldType} {encR : ρ0 → Option Value} {post : ρ0 → f_Mem → Prop} (hx : p.tables.exec = Jvm.exec) (hb : c.code = cc) (hml : c.maxLocals = nL) (hown : s.vm.findClass own = some m.cls) (hts : ∀ w ∈ tb, w.before args s = true) (hN : f_NW s) (hK : f_K E s) (hI : f_I E S) (hA : ∀ k, k < S.1 → A (f_ad E k)) (hA2 : ∀ q, s.heap.size ≤ q → A q) (hkc : kk ≤ MC) (hns : nn ≤ MS) : r_if_eq cc own ret D E S encR post (f_GC p e D MC MS kk nn s m args below meth c Q A E S nL) := by
  intro pc L st σ off tgt x hd ht kt kf H locs ls hP hS hl
  exact lv_if_eq hx hb hd ht (fun z => kt z H locs ls hP hS hl) (fun z => kf z H locs ls hP hS hl)

theorem q_if_ne {ρ0 : Type} {ret : Option FieldType} {encR : ρ0 → Option Value} {post : ρ0 → f_Mem → Prop} (hx : p.tables.exec = Jvm.exec) (hb : c.code = cc) (hml : c.maxLocals = nL) (hown : s.vm.findClass own = some m.cls) (hts : ∀ w ∈ tb, w.before args s = true) (hN : f_NW s) (hK : f_K E s) (hI : f_I E S) (hA : ∀ k, k < S.1 → A (f_ad E k)) (hA2 : ∀ q, s.heap.size ≤ q → A q) (hkc : kk ≤ MC) (hns : nn ≤ MS) : r_if_ne cc own ret D E S encR post (f_GC p e D MC MS kk nn s m args below meth c Q A E S nL) := by
  intro pc L st σ off tgt x hd ht kt kf H locs ls hP hS hl
  exact lv_if_ne hx hb hd ht (fun z => kt z H locs ls hP hS hl) (fun z => kf z H locs ls hP hS hl)

theorem q_if_lt {ρ0 : Type} {ret : Option FieldType} {encR : ρ0 → Option Value} {post : ρ0 → f_Mem → Prop} (hx : p.tables.exec = Jvm.exec) (hb : c.code = cc) (hml : c.maxLocals = nL) (hown : s.vm.findClass own = some m.cls) (hts : ∀ w ∈ tb, w.before args s = true) (hN : f_NW s) (hK : f_K E s) (hI : f_I E S) (hA : ∀ k, k < S.1 → A (f_ad E k)) (hA2 : ∀ q, s.heap.size ≤ q → A q) (hkc : kk ≤ MC) (hns : nn ≤ MS) : r_if_lt cc own ret D E S encR post (f_GC p e D MC MS kk nn s m args below meth c Q A E S nL) := by
  intro pc L st σ off tgt x hd ht kt kf H locs ls hP hS hl
  exact lv_if_lt hx hb hd ht (fun z => kt z H locs ls hP hS hl) (fun z => kf z H locs ls hP hS hl)

theorem q_if_ge {ρ0 : Type} {ret : Option FieldType} {encR : ρ0 → Option Value} {post : ρ0 → f_Mem → Prop} (hx : p.tables.exec = Jvm.exec) (hb : c.code = cc) (hml : c.maxLocals = nL) (hown : s.vm.findClass own = some m.cls) (hts : ∀ w ∈ tb, w.before args s = true) (hN : f_NW s) (hK : f_K E s) (hI : f_I E S) (hA : ∀ k, k < S.1 → A (f_ad E k)) (hA2 : ∀ q, s.heap.size ≤ q → A q) (hkc : kk ≤ MC) (hns : nn ≤ MS) : r_if_ge cc own ret D E S encR post (f_GC p e D MC MS kk nn s m args below meth c Q A E S nL) := by
  intro pc L st σ off tgt x hd ht kt kf H locs ls hP hS hl
  exact lv_if_ge hx hb hd ht (fun z => kt z H locs ls hP hS hl) (fun z => kf z H locs ls hP hS hl)

theorem q_if_gt {ρ0 : Type} {ret : Option FieldType} {encR : ρ0 → Option Value} {post : ρ0 → f_Mem → Prop} (hx : p.tables.exec = Jvm.exec) (hb : c.code = cc) (hml : c.maxLocals = nL) (hown : s.vm.findClass own = some m.cls) (hts : ∀ w ∈ tb, w.before args s = true) (hN : f_NW s) (hK : f_K E s) (hI : f_I E S) (hA : ∀ k, k < S.1 → A (f_ad E k)) (hA2 : ∀ q, s.heap.size ≤ q → A q) (hkc : kk ≤ MC) (hns : nn ≤ MS) : r_if_gt cc own ret D E S encR post (f_GC p e D MC MS kk nn s m args below meth c Q A E S nL) := by
  intro pc L st σ off tgt x hd ht kt kf H locs ls hP hS hl
  exact lv_if_gt hx hb hd ht (fun z => kt z H locs ls hP hS hl) (fun z => kf z H locs ls hP hS hl)

theorem q_if_le {ρ0 : Type} {ret : Option FieldType} {encR : ρ0 → Option Value} {post : ρ0 → f_Mem → Prop} (hx : p.tables.exec = Jvm.exec) (hb : c.code = cc) (hml : c.maxLocals = nL) (hown : s.vm.findClass own = some m.cls) (hts : ∀ w ∈ tb, w.before args s = true) (hN : f_NW s) (hK : f_K E s) (hI : f_I E S) (hA : ∀ k, k < S.1 → A (f_ad E k)) (hA2 : ∀ q, s.heap.size ≤ q → A q) (hkc : kk ≤ MC) (hns : nn ≤ MS) : r_if_le cc own ret D E S encR post (f_GC p e D MC MS kk nn s m args below meth c Q A E S nL) := by
  intro pc L st σ off tgt x hd ht kt kf H locs ls hP hS hl
  exact lv_if_le hx hb hd ht (fun z => kt z H locs ls hP hS hl) (fun z => kf z H locs ls hP hS hl)

theorem q_goto {ρ0 : Type} {ret : Option FieldType} {encR : ρ0 → Option Value} {post : ρ0 → f_Mem → Prop} (hx : p.tables.exec = Jvm.exec) (hb : c.code = cc) (hml : c.maxLocals = nL) (hown : s.vm.findClass own = some m.cls) (hts : ∀ w ∈ tb, w.before args s = true) (hN : f_NW s) (hK : f_K E s) (hI : f_I E S) (hA : ∀ k, k < S.1 → A (f_ad E k)) (hA2 : ∀ q, s.heap.size ≤ q → A q) (hkc : kk ≤ MC) (hns : nn ≤ MS) : r_goto cc own ret D E S encR post (f_GC p e D MC MS kk nn s m args below meth c Q A E S nL) := by
  intro pc L st σ off tgt hd ht k H locs ls hP hS hl
  exact lv_goto hx hb hd ht (k H locs ls hP hS hl)

theorem q_ifnull {ρ0 : Type} {ret : Option FieldType} {encR : ρ0 → Option Value} {post : ρ0 → f_Mem → Prop} (hx : p.tables.exec = Jvm.exec) (hb : c.code = cc) (hml : c.maxLocals = nL) (hown : s.vm.findClass own = some m.cls) (hts : ∀ w ∈ tb, w.before args s = true) (hN : f_NW s) (hK : f_K E s) (hI : f_I E S) (hA : ∀ k, k < S.1 → A (f_ad E k)) (hA2 : ∀ q, s.heap.size ≤ q → A q) (hkc : kk ≤ MC) (hns : nn ≤ MS) : r_ifnull cc own ret D E S encR post (f_GC p e D MC MS kk nn s m args below meth c Q A E S nL) := by
  intro pc L st σ off x hd k H locs ls hP hS hl
  exact lv_ifnull hx hb hd (k H locs ls hP hS hl)

theorem q_ifnullN {ρ0 : Type} {ret : Option FieldType} {encR : ρ0 → Option Value} {post : ρ0 → f_Mem → Prop} (hx : p.tables.exec = Jvm.exec) (hb : c.code = cc) (hml : c.maxLocals = nL) (hown : s.vm.findClass own = some m.cls) (hts : ∀ w ∈ tb, w.before args s = true) (hN : f_NW s) (hK : f_K E s) (hI : f_I E S) (hA : ∀ k, k < S.1 → A (f_ad E k)) (hA2 : ∀ q, s.heap.size ≤ q → A q) (hkc : kk ≤ MC) (hns : nn ≤ MS) : r_ifnullN cc own ret D E S encR post (f_GC p e D MC MS kk nn s m args below meth c Q A E S nL) := by
  intro pc L st σ off tgt hd ht k H locs ls hP hS hl
  exact lv_ifnullN hx hb hd ht (k H locs ls hP hS hl)

theorem q_ifnonnull {ρ0 : Type} {ret : Option FieldType} {encR : ρ0 → Option Value} {post : ρ0 → f_Mem → Prop} (hx : p.tables.exec = Jvm.exec) (hb : c.code = cc) (hml : c.maxLocals = nL) (hown : s.vm.findClass own = some m.cls) (hts : ∀ w ∈ tb, w.before args s = true) (hN : f_NW s) (hK : f_K E s) (hI : f_I E S) (hA : ∀ k, k < S.1 → A (f_ad E k)) (hA2 : ∀ q, s.heap.size ≤ q → A q) (hkc : kk ≤ MC) (hns : nn ≤ MS) : r_ifnonnull cc own ret D E S encR post (f_GC p e D MC MS kk nn s m args below meth c Q A E S nL) := by
  intro pc L st σ off tgt x hd ht k H locs ls hP hS hl
  exact lv_ifnonnull hx hb hd ht (k H locs ls hP hS hl)

theorem q_ifnonnullN {ρ0 : Type} {ret : Option FieldType} {encR : ρ0 → Option Value} {post : ρ0 → f_Mem → Prop} (hx : p.tables.exec = Jvm.exec) (hb : c.code = cc) (hml : c.maxLocals = nL) (hown : s.vm.findClass own = some m.cls) (hts : ∀ w ∈ tb, w.before args s = true) (hN : f_NW s) (hK : f_K E s) (hI : f_I E S) (hA : ∀ k, k < S.1 → A (f_ad E k)) (hA2 : ∀ q, s.heap.size ≤ q → A q) (hkc : kk ≤ MC) (hns : nn ≤ MS) : r_ifnonnullN cc own ret D E S encR post (f_GC p e D MC MS kk nn s m args below meth c Q A E S nL) := by
  intro pc L st σ off hd k H locs ls hP hS hl
  exact lv_ifnonnullN hx hb hd (k H locs ls hP hS hl)

theorem q_tblIn {ρ0 : Type} {ret : Option FieldType} {encR : ρ0 → Option Value} {post : ρ0 → f_Mem → Prop} (hx : p.tables.exec = Jvm.exec) (hb : c.code = cc) (hml : c.maxLocals = nL) (hown : s.vm.findClass own = some m.cls) (hts : ∀ w ∈ tb, w.before args s = true) (hN : f_NW s) (hK : f_K E s) (hI : f_I E S) (hA : ∀ k, k < S.1 → A (f_ad E k)) (hA2 : ∀ q, s.heap.size ≤ q → A q) (hkc : kk ≤ MC) (hns : nn ≤ MS) : r_tblIn cc own ret D E S encR post (f_GC p e D MC MS kk nn s m args below meth c Q A E S nL) := by
  intro pc L st σ dflt lo hi offs len x off tgt hd h0 h1 h2 h3 k H locs ls hP hS hl
  exact lv_tableIn hx hb hd h0 h1 h2 h3 (k H locs ls hP hS hl)

theorem q_tblOut {ρ0 : Type} {ret : Option FieldType} {encR : ρ0 → Option Value} {post : ρ0 → f_Mem → Prop} (hx : p.tables.exec = Jvm.exec) (hb : c.code = cc) (hml : c.maxLocals = nL) (hown : s.vm.findClass own = some m.cls) (hts : ∀ w ∈ tb, w.before args s = true) (hN : f_NW s) (hK : f_K E s) (hI : f_I E S) (hA : ∀ k, k < S.1 → A (f_ad E k)) (hA2 : ∀ q, s.heap.size ≤ q → A q) (hkc : kk ≤ MC) (hns : nn ≤ MS) : r_tblOut cc own ret D E S encR post (f_GC p e D MC MS kk nn s m args below meth c Q A E S nL) := by
  intro pc L st σ dflt lo hi offs len x tgt hd h0 h1 k H locs ls hP hS hl
  exact lv_tableOut hx hb hd h0 h1 (k H locs ls hP hS hl)

theorem q_iload_n {ρ0 : Type} {ret : Option FieldType} {encR : ρ0 → Option Value} {post : ρ0 → f_Mem → Prop} (hx : p.tables.exec = Jvm.exec) (hb : c.code = cc) (hml : c.maxLocals = nL) (hown : s.vm.findClass own = some m.cls) (hts : ∀ w ∈ tb, w.before args s = true) (hN : f_NW s) (hK : f_K E s) (hI : f_I E S) (hA : ∀ k, k < S.1 → A (f_ad E k)) (hA2 : ∀ q, s.heap.size ≤ q → A q) (hkc : kk ≤ MC) (hns : nn ≤ MS) : r_iload_n cc own ret D E S encR post (f_GC p e D MC MS kk nn s m args below meth c Q A E S nL) := by
  intro pc L st σ k x hd h0 k H locs ls hP hS hl
  exact lv_iload_n hx hb hd rfl (hl.at h0) (k H locs ls hP hS hl)

theorem q_iload {ρ0 : Type} {ret : Option FieldType} {encR : ρ0 → Option Value} {post : ρ0 → f_Mem → Prop} (hx : p.tables.exec = Jvm.exec) (hb : c.code = cc) (hml : c.maxLocals = nL) (hown : s.vm.findClass own = some m.cls) (hts : ∀ w ∈ tb, w.before args s = true) (hN : f_NW s) (hK : f_K E s) (hI : f_I E S) (hA : ∀ k, k < S.1 → A (f_ad E k)) (hA2 : ∀ q, s.heap.size ≤ q → A q) (hkc : kk ≤ MC) (hns : nn ≤ MS) : r_iload cc own ret D E S encR post (f_GC p e D MC MS kk nn s m args below meth c Q A E S nL) := by
  intro pc L st σ k x hd h0 k H locs ls hP hS hl
  exact lv_iload hx hb hd (hl.at h0) (k H locs ls hP hS hl)

theorem q_aload_n {ρ0 : Type} {ret : Option FieldType} {encR : ρ0 → Option Value} {post : ρ0 → f_Mem → Prop} (hx : p.tables.exec = Jvm.exec) (hb : c.code = cc) (hml : c.maxLocals = nL) (hown : s.vm.findClass own = some m.cls) (hts : ∀ w ∈ tb, w.before args s = true) (hN : f_NW s) (hK : f_K E s) (hI : f_I E S) (hA : ∀ k, k < S.1 → A (f_ad E k)) (hA2 : ∀ q, s.heap.size ≤ q → A q) (hkc : kk ≤ MC) (hns : nn ≤ MS) : r_aload_n cc own ret D E S encR post (f_GC p e D MC MS kk nn s m args below meth c Q A E S nL) := by
  intro pc L st σ k x hd h0 k H locs ls hP hS hl
  exact lv_aload_n hx hb hd rfl (hl.at h0) (k H locs ls hP hS hl)

theorem q_aload {ρ0 : Type} {ret : Option FieldType} {encR : ρ0 → Option Value} {post : ρ0 → f_Mem → Prop} (hx : p.tables.exec = Jvm.exec) (hb : c.code = cc) (hml : c.maxLocals = nL) (hown : s.vm.findClass own = some m.cls) (hts : ∀ w ∈ tb, w.before args s = true) (hN : f_NW s) (hK : f_K E s) (hI : f_I E S) (hA : ∀ k, k < S.1 → A (f_ad E k)) (hA2 : ∀ q, s.heap.size ≤ q → A q) (hkc : kk ≤ MC) (hns : nn ≤ MS) : r_aload cc own ret D E S encR post (f_GC p e D MC MS kk nn s m args below meth c Q A E S nL) := by
  intro pc L st σ k x hd h0 k H locs ls hP hS hl
  exact lv_aload hx hb hd (hl.at h0) (k H locs ls hP hS hl)

theorem q_aloadN_n {ρ0 : Type} {ret : Option FieldType} {encR : ρ0 → Option Value} {post : ρ0 → f_Mem → Prop} (hx : p.tables.exec = Jvm.exec) (hb : c.code = cc) (hml : c.maxLocals = nL) (hown : s.vm.findClass own = some m.cls) (hts : ∀ w ∈ tb, w.before args s = true) (hN : f_NW s) (hK : f_K E s) (hI : f_I E S) (hA : ∀ k, k < S.1 → A (f_ad E k)) (hA2 : ∀ q, s.heap.size ≤ q → A q) (hkc : kk ≤ MC) (hns : nn ≤ MS) : r_aloadN_n cc own ret D E S encR post (f_GC p e D MC MS kk nn s m args below meth c Q A E S nL) := by
  intro pc L st σ k hd h0 k H locs ls hP hS hl
  exact lv_aload_nN hx hb hd rfl (hl.at h0) (k H locs ls hP hS hl)

theorem q_aloadN {ρ0 : Type} {ret : Option FieldType} {encR : ρ0 → Option Value} {post : ρ0 → f_Mem → Prop} (hx : p.tables.exec = Jvm.exec) (hb : c.code = cc) (hml : c.maxLocals = nL) (hown : s.vm.findClass own = some m.cls) (hts : ∀ w ∈ tb, w.before args s = true) (hN : f_NW s) (hK : f_K E s) (hI : f_I E S) (hA : ∀ k, k < S.1 → A (f_ad E k)) (hA2 : ∀ q, s.heap.size ≤ q → A q) (hkc : kk ≤ MC) (hns : nn ≤ MS) : r_aloadN cc own ret D E S encR post (f_GC p e D MC MS kk nn s m args below meth c Q A E S nL) := by
  intro pc L st σ k hd h0 k H locs ls hP hS hl
  exact lv_aloadN hx hb hd (hl.at h0) (k H locs ls hP hS hl)

theorem q_lload_n {ρ0 : Type} {ret : Option FieldType} {encR : ρ0 → Option Value} {post : ρ0 → f_Mem → Prop} (hx : p.tables.exec = Jvm.exec) (hb : c.code = cc) (hml : c.maxLocals = nL) (hown : s.vm.findClass own = some m.cls) (hts : ∀ w ∈ tb, w.before args s = true) (hN : f_NW s) (hK : f_K E s) (hI : f_I E S) (hA : ∀ k, k < S.1 → A (f_ad E k)) (hA2 : ∀ q, s.heap.size ≤ q → A q) (hkc : kk ≤ MC) (hns : nn ≤ MS) : r_lload_n cc own ret D E S encR post (f_GC p e D MC MS kk nn s m args below meth c Q A E S nL) := by
  intro pc L st σ k x hd h0 k H locs ls hP hS hl
  exact lv_lload_n hx hb hd rfl (hl.at h0) (k H locs ls hP hS hl)

theorem q_lload {ρ0 : Type} {ret : Option FieldType} {encR : ρ0 → Option Value} {post : ρ0 → f_Mem → Prop} (hx : p.tables.exec = Jvm.exec) (hb : c.code = cc) (hml : c.maxLocals = nL) (hown : s.vm.findClass own = some m.cls) (hts : ∀ w ∈ tb, w.before args s = true) (hN : f_NW s) (hK : f_K E s) (hI : f_I E S) (hA : ∀ k, k < S.1 → A (f_ad E k)) (hA2 : ∀ q, s.heap.size ≤ q → A q) (hkc : kk ≤ MC) (hns : nn ≤ MS) : r_lload cc own ret D E S encR post (f_GC p e D MC MS kk nn s m args below meth c Q A E S nL) := by
  intro pc L st σ k x hd h0 k H locs ls hP hS hl
  exact lv_lload hx hb hd (hl.at h0) (k H locs ls hP hS hl)

theorem q_istore_n {ρ0 : Type} {ret : Option FieldType} {encR : ρ0 → Option Value} {post : ρ0 → f_Mem → Prop} (hx : p.tables.exec = Jvm.exec) (hb : c.code = cc) (hml : c.maxLocals = nL) (hown : s.vm.findClass own = some m.cls) (hts : ∀ w ∈ tb, w.before args s = true) (hN : f_NW s) (hK : f_K E s) (hI : f_I E S) (hA : ∀ k, k < S.1 → A (f_ad E k)) (hA2 : ∀ q, s.heap.size ≤ q → A q) (hkc : kk ≤ MC) (hns : nn ≤ MS) : r_istore_n cc own ret D E S encR post (f_GC p e D MC MS kk nn s m args below meth c Q A E S nL) := by
  intro pc L st σ k x hd h0 h1 k H locs ls hP hS hl
  refine lv_istore_n hx hb hd rfl hl.1 (by rw [← hl.2]; exact h0) rfl (fun ls2 hl2 => ?_)
  exact k H locs ls2 hP hS (f_ls_set hl.2 h1 hl2)

theorem q_istore {ρ0 : Type} {ret : Option FieldType} {encR : ρ0 → Option Value} {post : ρ0 → f_Mem → Prop} (hx : p.tables.exec = Jvm.exec) (hb : c.code = cc) (hml : c.maxLocals = nL) (hown : s.vm.findClass own = some m.cls) (hts : ∀ w ∈ tb, w.before args s = true) (hN : f_NW s) (hK : f_K E s) (hI : f_I E S) (hA : ∀ k, k < S.1 → A (f_ad E k)) (hA2 : ∀ q, s.heap.size ≤ q → A q) (hkc : kk ≤ MC) (hns : nn ≤ MS) : r_istore cc own ret D E S encR post (f_GC p e D MC MS kk nn s m args below meth c Q A E S nL) := by
  intro pc L st σ k x hd h0 h1 k H locs ls hP hS hl
  refine lv_istore hx hb hd hl.1 (by rw [← hl.2]; exact h0) rfl (fun ls2 hl2 => ?_)
  exact k H locs ls2 hP hS (f_ls_set hl.2 h1 hl2)

theorem q_astore_n {ρ0 : Type} {ret : Option FieldType} {encR : ρ0 → Option Value} {post : ρ0 → f_Mem → Prop} (hx : p.tables.exec = Jvm.exec) (hb : c.code = cc) (hml : c.maxLocals = nL) (hown : s.vm.findClass own = some m.cls) (hts : ∀ w ∈ tb, w.before args s = true) (hN : f_NW s) (hK : f_K E s) (hI : f_I E S) (hA : ∀ k, k < S.1 → A (f_ad E k)) (hA2 : ∀ q, s.heap.size ≤ q → A q) (hkc : kk ≤ MC) (hns : nn ≤ MS) : r_astore_n cc own ret D E S encR post (f_GC p e D MC MS kk nn s m args below meth c Q A E S nL) := by
  intro pc L st σ k x hd h0 h1 k H locs ls hP hS hl
  refine lv_astore_n hx hb hd rfl hl.1 (by rw [← hl.2]; exact h0) rfl (fun ls2 hl2 => ?_)
  exact k H locs ls2 hP hS (f_ls_set hl.2 h1 hl2)

theorem q_astore {ρ0 : Type} {ret : Option FieldType} {encR : ρ0 → Option Value} {post : ρ0 → f_Mem → Prop} (hx : p.tables.exec = Jvm.exec) (hb : c.code = cc) (hml : c.maxLocals = nL) (hown : s.vm.findClass own = some m.cls) (hts : ∀ w ∈ tb, w.before args s = true) (hN : f_NW s) (hK : f_K E s) (hI : f_I E S) (hA : ∀ k, k < S.1 → A (f_ad E k)) (hA2 : ∀ q, s.heap.size ≤ q → A q) (hkc : kk ≤ MC) (hns : nn ≤ MS) : r_astore cc own ret D E S encR post (f_GC p e D MC MS kk nn s m args below meth c Q A E S nL) := by
  intro pc L st σ k x hd h0 h1 k H locs ls hP hS hl
  refine lv_astore hx hb hd hl.1 (by rw [← hl.2]; exact h0) rfl (fun ls2 hl2 => ?_)
  exact k H locs ls2 hP hS (f_ls_set hl.2 h1 hl2)

theorem q_astoreN_n {ρ0 : Type} {ret : Option FieldType} {encR : ρ0 → Option Value} {post : ρ0 → f_Mem → Prop} (hx : p.tables.exec = Jvm.exec) (hb : c.code = cc) (hml : c.maxLocals = nL) (hown : s.vm.findClass own = some m.cls) (hts : ∀ w ∈ tb, w.before args s = true) (hN : f_NW s) (hK : f_K E s) (hI : f_I E S) (hA : ∀ k, k < S.1 → A (f_ad E k)) (hA2 : ∀ q, s.heap.size ≤ q → A q) (hkc : kk ≤ MC) (hns : nn ≤ MS) : r_astoreN_n cc own ret D E S encR post (f_GC p e D MC MS kk nn s m args below meth c Q A E S nL) := by
  intro pc L st σ k hd h0 h1 k H locs ls hP hS hl
  refine lv_astore_nN hx hb hd rfl hl.1 (by rw [← hl.2]; exact h0) rfl (fun ls2 hl2 => ?_)
  exact k H locs ls2 hP hS (f_ls_set hl.2 h1 hl2)

theorem q_astoreN {ρ0 : Type} {ret : Option FieldType} {encR : ρ0 → Option Value} {post : ρ0 → f_Mem → Prop} (hx : p.tables.exec = Jvm.exec) (hb : c.code = cc) (hml : c.maxLocals = nL) (hown : s.vm.findClass own = some m.cls) (hts : ∀ w ∈ tb, w.before args s = true) (hN : f_NW s) (hK : f_K E s) (hI : f_I E S) (hA : ∀ k, k < S.1 → A (f_ad E k)) (hA2 : ∀ q, s.heap.size ≤ q → A q) (hkc : kk ≤ MC) (hns : nn ≤ MS) : r_astoreN cc own ret D E S encR post (f_GC p e D MC MS kk nn s m args below meth c Q A E S nL) := by
  intro pc L st σ k hd h0 h1 k H locs ls hP hS hl
  refine lv_astoreN hx hb hd hl.1 (by rw [← hl.2]; exact h0) rfl (fun ls2 hl2 => ?_)
  exact k H locs ls2 hP hS (f_ls_set hl.2 h1 hl2)

theorem q_lstore_n {ρ0 : Type} {ret : Option FieldType} {encR : ρ0 → Option Value} {post : ρ0 → f_Mem → Prop} (hx : p.tables.exec = Jvm.exec) (hb : c.code = cc) (hml : c.maxLocals = nL) (hown : s.vm.findClass own = some m.cls) (hts : ∀ w ∈ tb, w.before args s = true) (hN : f_NW s) (hK : f_K E s) (hI : f_I E S) (hA : ∀ k, k < S.1 → A (f_ad E k)) (hA2 : ∀ q, s.heap.size ≤ q → A q) (hkc : kk ≤ MC) (hns : nn ≤ MS) : r_lstore_n cc own ret D E S encR post (f_GC p e D MC MS kk nn s m args below meth c Q A E S nL) := by
  intro pc L st σ k x hd h0 h1 k H locs ls hP hS hl
  refine lv_lstore_n hx hb hd rfl hl.1 (by rw [← hl.2]; exact h0) rfl (fun ls2 hl2 => ?_)
  exact k H locs ls2 hP hS (f_ls_set2 hl.2 h1 hl2)

theorem q_lstore {ρ0 : Type} {ret : Option FieldType} {encR : ρ0 → Option Value} {post : ρ0 → f_Mem → Prop} (hx : p.tables.exec = Jvm.exec) (hb : c.code = cc) (hml : c.maxLocals = nL) (hown : s.vm.findClass own = some m.cls) (hts : ∀ w ∈ tb, w.before args s = true) (hN : f_NW s) (hK : f_K E s) (hI : f_I E S) (hA : ∀ k, k < S.1 → A (f_ad E k)) (hA2 : ∀ q, s.heap.size ≤ q → A q) (hkc : kk ≤ MC) (hns : nn ≤ MS) : r_lstore cc own ret D E S encR post (f_GC p e D MC MS kk nn s m args below meth c Q A E S nL) := by
  intro pc L st σ k x hd h0 h1 k H locs ls hP hS hl
  refine lv_lstore hx hb hd hl.1 (by rw [← hl.2]; exact h0) rfl (fun ls2 hl2 => ?_)
  exact k H locs ls2 hP hS (f_ls_set2 hl.2 h1 hl2)

theorem q_iinc {ρ0 : Type} {ret : Option FieldType} {encR : ρ0 → Option Value} {post : ρ0 → f_Mem → Prop} (hx : p.tables.exec = Jvm.exec) (hb : c.code = cc) (hml : c.maxLocals = nL) (hown : s.vm.findClass own = some m.cls) (hts : ∀ w ∈ tb, w.before args s = true) (hN : f_NW s) (hK : f_K E s) (hI : f_I E S) (hA : ∀ k, k < S.1 → A (f_ad E k)) (hA2 : ∀ q, s.heap.size ≤ q → A q) (hkc : kk ≤ MC) (hns : nn ≤ MS) : r_iinc cc own ret D E S encR post (f_GC p e D MC MS kk nn s m args below meth c Q A E S nL) := by
  intro pc L st σ k n x v hd h0 h1 h2 k90 H locs ls hP hS hl
  obtain ⟨q, hq⟩ := List.getElem?_of_mem ((f_lv_mem L 0 (k, .int x)).mpr ⟨k, by simp, h0⟩)
  have hlt : k < nL := by rw [← hl.2]; exact (List.getElem?_eq_some_iff.mp h0).1
  refine lv_iinc hx hb hd hl.1 hq h1 hlt rfl (fun ls2 hl2 => ?_)
  exact k90 H locs ls2 hP hS (f_ls_set hl.2 h2 hl2)

theorem q_getI {ρ0 : Type} {ret : Option FieldType} {encR : ρ0 → Option Value} {post : ρ0 → f_Mem → Prop} (hx : p.tables.exec = Jvm.exec) (hb : c.code = cc) (hml : c.maxLocals = nL) (hown : s.vm.findClass own = some m.cls) (hts : ∀ w ∈ tb, w.before args s = true) (hN : f_NW s) (hK : f_K E s) (hI : f_I E S) (hA : ∀ k, k < S.1 → A (f_ad E k)) (hA2 : ∀ q, s.heap.size ≤ q → A q) (hkc : kk ≤ MC) (hns : nn ≤ MS) : r_getI cc own ret D E S encR post (f_GC p e D MC MS kk nn s m args below meth c Q A E S nL) := by
  intro pc L st σ i ci k n fs hd h0 h1 h2 h3 k90 H locs ls hP hS hl
  obtain ⟨C, T, N, g1, g2, g3, g4⟩ := h0
  have he := f_wl_at E S σ h1
  rw [f_cell_o h2] at he
  have hv : (f_fld (f_ad E) (σ n) 0 fs)[k]? = some (.int (σ n k)) := by rw [f_fld_get, h3]; simp
  rcases g4 with g4 | ⟨host, g4⟩
  · exact va_get hx hb hts g2 hown hK hP n he g1 k g3 (hts _ g4) (fun _ h9 => h9) hv hd (k90 H locs ls hP hS hl)
  · exact va_getN hx hb hts g2 hown hK hP n he g1 k g3 (hN.use _ g4) (fun _ h9 => h9) hv hd (k90 H locs ls hP hS hl)

theorem q_getR {ρ0 : Type} {ret : Option FieldType} {encR : ρ0 → Option Value} {post : ρ0 → f_Mem → Prop} (hx : p.tables.exec = Jvm.exec) (hb : c.code = cc) (hml : c.maxLocals = nL) (hown : s.vm.findClass own = some m.cls) (hts : ∀ w ∈ tb, w.before args s = true) (hN : f_NW s) (hK : f_K E s) (hI : f_I E S) (hA : ∀ k, k < S.1 → A (f_ad E k)) (hA2 : ∀ q, s.heap.size ≤ q → A q) (hkc : kk ≤ MC) (hns : nn ≤ MS) : r_getR cc own ret D E S encR post (f_GC p e D MC MS kk nn s m args below meth c Q A E S nL) := by
  intro pc L st σ i ci k n r fs hd h0 h1 h2 h3 k90 H locs ls hP hS hl
  obtain ⟨C, T, N, g1, g2, g3, g4⟩ := h0
  have he := f_wl_at E S σ h1
  rw [f_cell_o h2] at he
  have hv : (f_fld (f_ad E) (σ n) 0 fs)[k]? = some (.ref (f_ad E r)) := by rw [f_fld_get, h3]; simp
  rcases g4 with g4 | ⟨host, g4⟩
  · exact va_get hx hb hts g2 hown hK hP n he g1 k g3 (hts _ g4) (fun _ h9 => h9) hv hd (k90 H locs ls hP hS hl)
  · exact va_getN hx hb hts g2 hown hK hP n he g1 k g3 (hN.use _ g4) (fun _ h9 => h9) hv hd (k90 H locs ls hP hS hl)

theorem q_getN {ρ0 : Type} {ret : Option FieldType} {encR : ρ0 → Option Value} {post : ρ0 → f_Mem → Prop} (hx : p.tables.exec = Jvm.exec) (hb : c.code = cc) (hml : c.maxLocals = nL) (hown : s.vm.findClass own = some m.cls) (hts : ∀ w ∈ tb, w.before args s = true) (hN : f_NW s) (hK : f_K E s) (hI : f_I E S) (hA : ∀ k, k < S.1 → A (f_ad E k)) (hA2 : ∀ q, s.heap.size ≤ q → A q) (hkc : kk ≤ MC) (hns : nn ≤ MS) : r_getN cc own ret D E S encR post (f_GC p e D MC MS kk nn s m args below meth c Q A E S nL) := by
  intro pc L st σ i ci k n fs hd h0 h1 h2 h3 k90 H locs ls hP hS hl
  obtain ⟨C, T, N, g1, g2, g3, g4⟩ := h0
  have he := f_wl_at E S σ h1
  rw [f_cell_o h2] at he
  have hv : (f_fld (f_ad E) (σ n) 0 fs)[k]? = some (.null) := by rw [f_fld_get, h3]; simp
  rcases g4 with g4 | ⟨host, g4⟩
  · exact va_get hx hb hts g2 hown hK hP n he g1 k g3 (hts _ g4) (fun _ h9 => h9) hv hd (k90 H locs ls hP hS hl)
  · exact va_getN hx hb hts g2 hown hK hP n he g1 k g3 (hN.use _ g4) (fun _ h9 => h9) hv hd (k90 H locs ls hP hS hl)

theorem q_put {ρ0 : Type} {ret : Option FieldType} {encR : ρ0 → Option Value} {post : ρ0 → f_Mem → Prop} (hx : p.tables.exec = Jvm.exec) (hb : c.code = cc) (hml : c.maxLocals = nL) (hown : s.vm.findClass own = some m.cls) (hts : ∀ w ∈ tb, w.before args s = true) (hN : f_NW s) (hK : f_K E s) (hI : f_I E S) (hA : ∀ k, k < S.1 → A (f_ad E k)) (hA2 : ∀ q, s.heap.size ≤ q → A q) (hkc : kk ≤ MC) (hns : nn ≤ MS) : r_put cc own ret D E S encR post (f_GC p e D MC MS kk nn s m args below meth c Q A E S nL) := by
  intro pc L st σ i ci k n fs v hd h0 h1 h2 h3 k90 H locs ls hP hS hl
  obtain ⟨C, T, N, g1, g2, g3, g4, ⟨ty0, g5⟩, g6, g7, g8⟩ := h0
  have he := f_wl_at E S σ h1
  rw [f_cell_o h2] at he
  have hD := f_D hI hA σ
  have hlen : k < (f_fld (f_ad E) (σ n) 0 fs).length := by rw [f_fld_len]; exact (List.getElem?_eq_some_iff.mp h3).1
  have hset : (f_wl E S σ).set n (f_ad E n, .inr (ci, (f_fld (f_ad E) (σ n) 0 fs).set k (.int v))) = f_wl E S (m_set σ n k v) := by
    refine f_wl_set h1 ?_
    rw [f_cell_o h2, f_fld_set _ _ _ _ _ h3]
    unfold m_row
    rw [if_pos rfl]
  rcases g4 with g4 | ⟨host, g4⟩
  · refine va_put hx hb hts g2 ty0 g5 g6 hown hK hP hD hS n he g1 k g3 (hts _ g4) (fun _ h9 => h9) g7 g8 rfl rfl hlen hd (fun H1 locs1 hP1 _ hS1 => ?_)
    rw [hset] at hP1
    exact k90 H1 locs1 ls hP1 hS1 hl
  · refine va_putN hx hb hts g2 ty0 g5 g6 hown hK hP hD hS n he g1 k g3 (hN.use _ g4) (fun _ h9 => h9) g7 g8 rfl rfl hlen hd (fun H1 locs1 hP1 _ hS1 => ?_)
    rw [hset] at hP1
    exact k90 H1 locs1 ls hP1 hS1 hl

theorem q_ald {ρ0 : Type} {ret : Option FieldType} {encR : ρ0 → Option Value} {post : ρ0 → f_Mem → Prop} (hx : p.tables.exec = Jvm.exec) (hb : c.code = cc) (hml : c.maxLocals = nL) (hown : s.vm.findClass own = some m.cls) (hts : ∀ w ∈ tb, w.before args s = true) (hN : f_NW s) (hK : f_K E s) (hI : f_I E S) (hA : ∀ k, k < S.1 → A (f_ad E k)) (hA2 : ∀ q, s.heap.size ≤ q → A q) (hkc : kk ≤ MC) (hns : nn ≤ MS) : r_ald cc own ret D E S encR post (f_GC p e D MC MS kk nn s m args below meth c Q A E S nL) := by
  intro pc L st σ n len i hd h0 h1 h2 k90 H locs ls hP hS hl
  have he := f_wl_at E S σ h0
  rw [f_cell_i h1] at he
  exact va_iald hx hb hK hP n 0 he rfl h2 hd (k90 H locs ls hP hS hl)

theorem q_ast {ρ0 : Type} {ret : Option FieldType} {encR : ρ0 → Option Value} {post : ρ0 → f_Mem → Prop} (hx : p.tables.exec = Jvm.exec) (hb : c.code = cc) (hml : c.maxLocals = nL) (hown : s.vm.findClass own = some m.cls) (hts : ∀ w ∈ tb, w.before args s = true) (hN : f_NW s) (hK : f_K E s) (hI : f_I E S) (hA : ∀ k, k < S.1 → A (f_ad E k)) (hA2 : ∀ q, s.heap.size ≤ q → A q) (hkc : kk ≤ MC) (hns : nn ≤ MS) : r_ast cc own ret D E S encR post (f_GC p e D MC MS kk nn s m args below meth c Q A E S nL) := by
  intro pc L st σ n len i v hd h0 h1 h2 k90 H locs ls hP hS hl
  have he := f_wl_at E S σ h0
  rw [f_cell_i h1] at he
  refine va_iast hx hb hK hP (f_D hI hA σ) hS n 0 he rfl h2 hd (fun H1 locs1 hP1 _ hS1 => ?_)
  rw [f_wl_set (f := upd (σ n) i.toNatClampNeg v) h0 (by rw [f_cell_i h1]; unfold m_row; rw [if_pos rfl])] at hP1
  exact k90 H1 locs1 ls hP1 hS1 hl

theorem q_alenI {ρ0 : Type} {ret : Option FieldType} {encR : ρ0 → Option Value} {post : ρ0 → f_Mem → Prop} (hx : p.tables.exec = Jvm.exec) (hb : c.code = cc) (hml : c.maxLocals = nL) (hown : s.vm.findClass own = some m.cls) (hts : ∀ w ∈ tb, w.before args s = true) (hN : f_NW s) (hK : f_K E s) (hI : f_I E S) (hA : ∀ k, k < S.1 → A (f_ad E k)) (hA2 : ∀ q, s.heap.size ≤ q → A q) (hkc : kk ≤ MC) (hns : nn ≤ MS) : r_alenI cc own ret D E S encR post (f_GC p e D MC MS kk nn s m args below meth c Q A E S nL) := by
  intro pc L st σ n len hd h0 h1 k90 H locs ls hP hS hl
  have he := f_wl_at E S σ h0
  rw [f_cell_i h1] at he
  exact va_alen hx hb hK hP n 0 he (ty := .int) rfl rfl hd (k90 H locs ls hP hS hl)

theorem q_alenQ {ρ0 : Type} {ret : Option FieldType} {encR : ρ0 → Option Value} {post : ρ0 → f_Mem → Prop} (hx : p.tables.exec = Jvm.exec) (hb : c.code = cc) (hml : c.maxLocals = nL) (hown : s.vm.findClass own = some m.cls) (hts : ∀ w ∈ tb, w.before args s = true) (hN : f_NW s) (hK : f_K E s) (hI : f_I E S) (hA : ∀ k, k < S.1 → A (f_ad E k)) (hA2 : ∀ q, s.heap.size ≤ q → A q) (hkc : kk ≤ MC) (hns : nn ≤ MS) : r_alenQ cc own ret D E S encR post (f_GC p e D MC MS kk nn s m args below meth c Q A E S nL) := by
  intro pc L st σ n len hd h0 h1 k90 H locs ls hP hS hl
  have he := f_wl_at E S σ h0
  rw [f_cell_q h1] at he
  exact va_alen hx hb hK hP n 1 he (ty := .object RX2) rfl rfl hd (k90 H locs ls hP hS hl)

theorem q_aldQ {ρ0 : Type} {ret : Option FieldType} {encR : ρ0 → Option Value} {post : ρ0 → f_Mem → Prop} (hx : p.tables.exec = Jvm.exec) (hb : c.code = cc) (hml : c.maxLocals = nL) (hown : s.vm.findClass own = some m.cls) (hts : ∀ w ∈ tb, w.before args s = true) (hN : f_NW s) (hK : f_K E s) (hI : f_I E S) (hA : ∀ k, k < S.1 → A (f_ad E k)) (hA2 : ∀ q, s.heap.size ≤ q → A q) (hkc : kk ≤ MC) (hns : nn ≤ MS) : r_aldQ cc own ret D E S encR post (f_GC p e D MC MS kk nn s m args below meth c Q A E S nL) := by
  intro pc L st σ n len i hd h0 h1 h2 k90 H locs ls hP hS hl
  have he := f_wl_at E S σ h0
  rw [f_cell_q h1] at he
  exact va_aldq hx hb hK hP n 1 (C := RX2) he rfl h2 hd (k90 H locs ls hP hS hl)

theorem q_astQ {ρ0 : Type} {ret : Option FieldType} {encR : ρ0 → Option Value} {post : ρ0 → f_Mem → Prop} (hx : p.tables.exec = Jvm.exec) (hb : c.code = cc) (hml : c.maxLocals = nL) (hown : s.vm.findClass own = some m.cls) (hts : ∀ w ∈ tb, w.before args s = true) (hN : f_NW s) (hK : f_K E s) (hI : f_I E S) (hA : ∀ k, k < S.1 → A (f_ad E k)) (hA2 : ∀ q, s.heap.size ≤ q → A q) (hkc : kk ≤ MC) (hns : nn ≤ MS) : r_astQ cc own ret D E S encR post (f_GC p e D MC MS kk nn s m args below meth c Q A E S nL) := by
  intro pc L st σ n len r fs i hd h0 h1 h2 h3 h4 h5 k90 H locs ls hP hS hl
  have he := f_wl_at E S σ h0
  rw [f_cell_q h1] at he
  have hv := f_wl_at E S σ h3
  rw [f_cell_o h4] at hv
  refine va_astq (r := (RX2, TX2, 5)) hx hb hK hP (f_D hI hA σ) hS n 1 r 2 he rfl hv rfl h2 hd (fun H1 locs1 hP1 _ hS1 => ?_)
  rw [f_wl_set (f := upd (σ n) i.toNatClampNeg (Int32.ofNat r)) h0 (by
    rw [f_cell_q h1]; unfold m_row; rw [if_pos rfl]
    congr 2; congr 1; congr 1; congr 1; congr 1; congr 1
    funext j
    unfold upd va_up
    by_cases hj : j = i.toNatClampNeg
    · rw [if_pos hj, if_pos hj, Int32.toNatClampNeg_ofNat_of_lt h5]
    · rw [if_neg hj, if_neg hj])] at hP1
  exact k90 H1 locs1 ls hP1 hS1 hl

theorem q_max {ρ0 : Type} {ret : Option FieldType} {encR : ρ0 → Option Value} {post : ρ0 → f_Mem → Prop} (hx : p.tables.exec = Jvm.exec) (hb : c.code = cc) (hml : c.maxLocals = nL) (hown : s.vm.findClass own = some m.cls) (hts : ∀ w ∈ tb, w.before args s = true) (hN : f_NW s) (hK : f_K E s) (hI : f_I E S) (hA : ∀ k, k < S.1 → A (f_ad E k)) (hA2 : ∀ q, s.heap.size ≤ q → A q) (hkc : kk ≤ MC) (hns : nn ≤ MS) : r_max cc own ret D E S encR post (f_GC p e D MC MS kk nn s m args below meth c Q A E S nL) := by
  intro pc L st σ i x y hd h0 h1 h2 k90 H locs ls hP hS hl
  have h3 : (st.map fun v => v.category).sum + 13 ≤ (k_rm D MC MS).locals := by show _ ≤ 60 * D; omega
  exact va_mmax hx hb (hml.trans hl.1.1.symm) hown (hts _ h0) (hts _ tb_max1) (hts _ tb_math) (hts _ tb_max2) h1 h3 hkc hns hd (k90 H locs ls hP hS hl)

theorem q_min {ρ0 : Type} {ret : Option FieldType} {encR : ρ0 → Option Value} {post : ρ0 → f_Mem → Prop} (hx : p.tables.exec = Jvm.exec) (hb : c.code = cc) (hml : c.maxLocals = nL) (hown : s.vm.findClass own = some m.cls) (hts : ∀ w ∈ tb, w.before args s = true) (hN : f_NW s) (hK : f_K E s) (hI : f_I E S) (hA : ∀ k, k < S.1 → A (f_ad E k)) (hA2 : ∀ q, s.heap.size ≤ q → A q) (hkc : kk ≤ MC) (hns : nn ≤ MS) : r_min cc own ret D E S encR post (f_GC p e D MC MS kk nn s m args below meth c Q A E S nL) := by
  intro pc L st σ i x y hd h0 h1 h2 k90 H locs ls hP hS hl
  have h3 : (st.map fun v => v.category).sum + 13 ≤ (k_rm D MC MS).locals := by show _ ≤ 60 * D; omega
  exact va_mmin hx hb (hml.trans hl.1.1.symm) hown (hts _ h0) (hts _ tb_min1) (hts _ tb_math) (hts _ tb_min2) h1 h3 hkc hns hd (k90 H locs ls hP hS hl)

theorem q_copy {ρ0 : Type} {ret : Option FieldType} {encR : ρ0 → Option Value} {post : ρ0 → f_Mem → Prop} (hx : p.tables.exec = Jvm.exec) (hb : c.code = cc) (hml : c.maxLocals = nL) (hown : s.vm.findClass own = some m.cls) (hts : ∀ w ∈ tb, w.before args s = true) (hN : f_NW s) (hK : f_K E s) (hI : f_I E S) (hA : ∀ k, k < S.1 → A (f_ad E k)) (hA2 : ∀ q, s.heap.size ≤ q → A q) (hkc : kk ≤ MC) (hns : nn ≤ MS) : r_copy cc own ret D E S encR post (f_GC p e D MC MS kk nn s m args below meth c Q A E S nL) := by
  intro pc L st σ i n0 n1 l0 l1 sp dp n hd h0 h1 h2 h3 h4 h5 h6 h7 h8 h9 h10 h11 k90 H locs ls hP hS hl
  have he0 := f_wl_at E S σ h3
  rw [f_cell_i h5] at he0
  have he1 := f_wl_at E S σ h4
  rw [f_cell_i h6] at he1
  have hloc : (st.map fun v => v.category).sum + (nativeFrameWords "java/lang/System" "arraycopy" 5 + 11) ≤ (k_rm D MC MS).locals := by
    have h13 : nativeFrameWords "java/lang/System" "arraycopy" 5 ≤ 30 := by decide +kernel
    show _ ≤ 60 * D
    omega
  refine va_copyi hx hb (hml.trans hl.1.1.symm) hown (hts _ h0) (hts _ tb_copy1) (hts _ tb_copy2) (hts _ tb_sys) hK hP (f_D hI hA σ) hS n0 n1 0 0 (ty := .int) he0 he1 rfl rfl rfl h7 h8 h9 h10 h11 (fun _ _ => rfl) h1 hloc hd (fun H1 locs1 hP1 _ hS1 => ?_)
  rw [f_wl_set (f := va_cpy (σ n0) (σ n1) sp.toNatClampNeg dp.toNatClampNeg n.toNatClampNeg) h4 (by rw [f_cell_i h6]; unfold m_row; rw [if_pos rfl])] at hP1
  exact k90 H1 locs1 ls hP1 hS1 hl

theorem q_callV {ρ0 : Type} {ret : Option FieldType} {encR : ρ0 → Option Value} {post : ρ0 → f_Mem → Prop} (hx : p.tables.exec = Jvm.exec) (hb : c.code = cc) (hml : c.maxLocals = nL) (hown : s.vm.findClass own = some m.cls) (hts : ∀ w ∈ tb, w.before args s = true) (hN : f_NW s) (hK : f_K E s) (hI : f_I E S) (hA : ∀ k, k < S.1 → A (f_ad E k)) (hA2 : ∀ q, s.heap.size ≤ q → A q) (hkc : kk ≤ MC) (hns : nn ≤ MS) : r_callV cc own ret D E S encR post (f_GC p e D MC MS kk nn s m args below meth c Q A E S nL) := by
  intro ρ pc L rest As σ i ci n d fs Y enc post2 hd h0 h1 h2 h3 hM9 h5 h6 k90 H locs ls hP hS hl
  have he := f_wl_at E S σ h1
  rw [f_cell_o h2] at he
  obtain ⟨lc, li, ls9, lk, lh⟩ := h0
  obtain ⟨q, hq, hq2⟩ := Option.map_eq_some_iff.mp h3
  have hrec := va_recv hK hP hq he
  rw [hq2] at hrec
  have hroom : 2 * (F0 m pc ls (As.reverse ++ .ref (f_ad E n) :: rest)).monitorRoom + (rest.map fun v => v.category).sum ≤ 8 := lv_room h6
  have hpre : PreV s H Y.1.cls (f_ad E n) (f_Pc E S (.ref (f_ad E n) :: As) σ H.size) As := ⟨f_FB, hrec, fun U hU hW => ⟨rfl, by rw [hU], by rw [hU]; exact hP, va_K.moved hW.alike hK, hN.warm hW, hI⟩⟩
  have hA1 : ∀ q, f_A E S H.size q → A q := fun q h => by
    rcases h with ⟨k9, h8, rfl⟩ | h
    · exact hA k9 h8
    · exact hA2 q (Nat.le_trans hS.1 h)
  rcases lk with lk | ⟨host, lk⟩
  · exact fc_call (va_runV (C := Y.1.cls) ⟨hx, hb, hml, hown, hts⟩ (hM9 H.size) ⟨kc_pay hts lc lh h5 (hts _ lk), hts _ li, hts _ ls9⟩ hpre rfl rfl hl.1.1 rfl hroom hd ⟨hkc, hns⟩) hS (fun q _ h => hA1 q h) hA1 (fun r u H1 locs1 hp hP1 hS1 => k90 r u hp H1 locs1 ls hP1 hS1 hl)
  · exact fc_call (va_runVN (C := Y.1.cls) ⟨hx, hb, hml, hown, hts⟩ (hM9 H.size) ⟨kc_payN hts lc lh h5 (hN _ lk), hts _ li, hts _ ls9⟩ hpre rfl rfl hl.1.1 rfl hroom hd ⟨hkc, hns⟩) hS (fun q _ h => hA1 q h) hA1 (fun r u H1 locs1 hp hP1 hS1 => k90 r u hp H1 locs1 ls hP1 hS1 hl)

theorem q_callS {ρ0 : Type} {ret : Option FieldType} {encR : ρ0 → Option Value} {post : ρ0 → f_Mem → Prop} (hx : p.tables.exec = Jvm.exec) (hb : c.code = cc) (hml : c.maxLocals = nL) (hown : s.vm.findClass own = some m.cls) (hts : ∀ w ∈ tb, w.before args s = true) (hN : f_NW s) (hK : f_K E s) (hI : f_I E S) (hA : ∀ k, k < S.1 → A (f_ad E k)) (hA2 : ∀ q, s.heap.size ≤ q → A q) (hkc : kk ≤ MC) (hns : nn ≤ MS) : r_callS cc own ret D E S encR post (f_GC p e D MC MS kk nn s m args below meth c Q A E S nL) := by
  intro ρ pc L rest As σ i d Y enc post2 hd h0 hM9 h2 h3 k90 H locs ls hP hS hl
  obtain ⟨lc, li, lk, lh⟩ := h0
  have hroom : 2 * (F0 m pc ls (As.reverse ++ rest)).monitorRoom + (rest.map fun v => v.category).sum ≤ 8 := lv_room h3
  have hpre : PreS s H (f_Pc E S As σ H.size) As := ⟨f_FB, fun U hU hW => ⟨rfl, by rw [hU], by rw [hU]; exact hP, va_K.moved hW.alike hK, hN.warm hW, hI⟩⟩
  have hA1 : ∀ q, f_A E S H.size q → A q := fun q h => by
    rcases h with ⟨k9, h8, rfl⟩ | h
    · exact hA k9 h8
    · exact hA2 q (Nat.le_trans hS.1 h)
  rcases lk with lk | ⟨host, lk⟩
  · exact fc_call (va_runS ⟨hx, hb, hml, hown, hts⟩ (hM9 H.size) ⟨kc_pay hts lc lh h2 (hts _ lk), hts _ li⟩ hpre rfl rfl hl.1.1 rfl hroom hd ⟨hkc, hns⟩) hS (fun q _ h => hA1 q h) hA1 (fun r u H1 locs1 hp hP1 hS1 => k90 r u hp H1 locs1 ls hP1 hS1 hl)
  · exact fc_call (va_runSN ⟨hx, hb, hml, hown, hts⟩ (hM9 H.size) ⟨kc_payN hts lc lh h2 (hN _ lk), hts _ li, trivial⟩ hpre rfl rfl hl.1.1 rfl hroom hd ⟨hkc, hns⟩) hS (fun q _ h => hA1 q h) hA1 (fun r u H1 locs1 hp hP1 hS1 => k90 r u hp H1 locs1 ls hP1 hS1 hl)

/-- all rules, in a frame that has made cells; its return by itself -/
theorem Rul_of {ρ0 : Type} {encR : ρ0 → Option Value} {post : ρ0 → f_Mem → Prop} (hx : p.tables.exec = Jvm.exec) (hb : c.code = cc) (hml : c.maxLocals = nL) (hown : s.vm.findClass own = some m.cls) (hts : ∀ w ∈ tb, w.before args s = true) (hN : f_NW s) (hK : f_K E s) (hI : f_I E S) (hA : ∀ k, k < S.1 → A (f_ad E k)) (hA2 : ∀ q, s.heap.size ≤ q → A q) (hkc : kk ≤ MC) (hns : nn ≤ MS) (hv : r_vret cc own none D E S encR post (f_GC p e D MC MS kk nn s m args below meth c Q A E S nL)) : Rul cc own none D E S encR post (f_GC p e D MC MS kk nn s m args below meth c Q A E S nL) := by
  refine ⟨q_iadd hx hb hml hown hts hN hK hI hA hA2 hkc hns, q_isub hx hb hml hown hts hN hK hI hA hA2 hkc hns, q_imul hx hb hml hown hts hN hK hI hA hA2 hkc hns, q_idiv hx hb hml hown hts hN hK hI hA hA2 hkc hns, q_irem hx hb hml hown hts hN hK hI hA hA2 hkc hns, q_iand hx hb hml hown hts hN hK hI hA hA2 hkc hns, q_ior hx hb hml hown hts hN hK hI hA hA2 hkc hns, q_ixor hx hb hml hown hts hN hK hI hA hA2 hkc hns, q_ishl hx hb hml hown hts hN hK hI hA hA2 hkc hns, q_ishr hx hb hml hown hts hN hK hI hA hA2 hkc hns, q_iushr hx hb hml hown hts hN hK hI hA hA2 hkc hns, q_ladd hx hb hml hown hts hN hK hI hA hA2 hkc hns, q_lmul hx hb hml hown hts hN hK hI hA hA2 hkc hns, q_ldiv hx hb hml hown hts hN hK hI hA hA2 hkc hns, q_lrem hx hb hml hown hts hN hK hI hA hA2 hkc hns, q_i2l hx hb hml hown hts hN hK hI hA hA2 hkc hns, q_l2i hx hb hml hown hts hN hK hI hA hA2 hkc hns, q_lcmp hx hb hml hown hts hN hK hI hA hA2 hkc hns, q_iconst hx hb hml hown hts hN hK hI hA hA2 hkc hns, q_bipush hx hb hml hown hts hN hK hI hA hA2 hkc hns, q_sipush hx hb hml hown hts hN hK hI hA hA2 hkc hns, q_lconst hx hb hml hown hts hN hK hI hA hA2 hkc hns, q_ldc hx hb hml hown hts hN hK hI hA hA2 hkc hns, q_ldcw hx hb hml hown hts hN hK hI hA hA2 hkc hns, q_ldc2 hx hb hml hown hts hN hK hI hA hA2 hkc hns, q_null hx hb hml hown hts hN hK hI hA hA2 hkc hns, q_dup hx hb hml hown hts hN hK hI hA hA2 hkc hns, q_dup2 hx hb hml hown hts hN hK hI hA hA2 hkc hns, q_pop hx hb hml hown hts hN hK hI hA hA2 hkc hns, q_icmp_eq hx hb hml hown hts hN hK hI hA hA2 hkc hns, q_icmp_ne hx hb hml hown hts hN hK hI hA hA2 hkc hns, q_icmp_lt hx hb hml hown hts hN hK hI hA hA2 hkc hns, q_icmp_ge hx hb hml hown hts hN hK hI hA hA2 hkc hns, q_icmp_gt hx hb hml hown hts hN hK hI hA hA2 hkc hns, q_icmp_le hx hb hml hown hts hN hK hI hA hA2 hkc hns, q_if_eq hx hb hml hown hts hN hK hI hA hA2 hkc hns, q_if_ne hx hb hml hown hts hN hK hI hA hA2 hkc hns, q_if_lt hx hb hml hown hts hN hK hI hA hA2 hkc hns, q_if_ge hx hb hml hown hts hN hK hI hA hA2 hkc hns, q_if_gt hx hb hml hown hts hN hK hI hA hA2 hkc hns, q_if_le hx hb hml hown hts hN hK hI hA hA2 hkc hns, q_goto hx hb hml hown hts hN hK hI hA hA2 hkc hns, q_ifnull hx hb hml hown hts hN hK hI hA hA2 hkc hns, q_ifnullN hx hb hml hown hts hN hK hI hA hA2 hkc hns, q_ifnonnull hx hb hml hown hts hN hK hI hA hA2 hkc hns, q_ifnonnullN hx hb hml hown hts hN hK hI hA hA2 hkc hns, q_tblIn hx hb hml hown hts hN hK hI hA hA2 hkc hns, q_tblOut hx hb hml hown hts hN hK hI hA hA2 hkc hns, q_iload_n hx hb hml hown hts hN hK hI hA hA2 hkc hns, q_iload hx hb hml hown hts hN hK hI hA hA2 hkc hns, q_aload_n hx hb hml hown hts hN hK hI hA hA2 hkc hns, q_aload hx hb hml hown hts hN hK hI hA hA2 hkc hns, q_aloadN_n hx hb hml hown hts hN hK hI hA hA2 hkc hns, q_aloadN hx hb hml hown hts hN hK hI hA hA2 hkc hns, q_lload_n hx hb hml hown hts hN hK hI hA hA2 hkc hns, q_lload hx hb hml hown hts hN hK hI hA hA2 hkc hns, q_istore_n hx hb hml hown hts hN hK hI hA hA2 hkc hns, q_istore hx hb hml hown hts hN hK hI hA hA2 hkc hns, q_astore_n hx hb hml hown hts hN hK hI hA hA2 hkc hns, q_astore hx hb hml hown hts hN hK hI hA hA2 hkc hns, q_astoreN_n hx hb hml hown hts hN hK hI hA hA2 hkc hns, q_astoreN hx hb hml hown hts hN hK hI hA hA2 hkc hns, q_lstore_n hx hb hml hown hts hN hK hI hA hA2 hkc hns, q_lstore hx hb hml hown hts hN hK hI hA hA2 hkc hns, q_iinc hx hb hml hown hts hN hK hI hA hA2 hkc hns, q_getI hx hb hml hown hts hN hK hI hA hA2 hkc hns, q_getR hx hb hml hown hts hN hK hI hA hA2 hkc hns, q_getN hx hb hml hown hts hN hK hI hA hA2 hkc hns, q_put hx hb hml hown hts hN hK hI hA hA2 hkc hns, q_ald hx hb hml hown hts hN hK hI hA hA2 hkc hns, q_ast hx hb hml hown hts hN hK hI hA hA2 hkc hns, q_alenI hx hb hml hown hts hN hK hI hA hA2 hkc hns, q_alenQ hx hb hml hown hts hN hK hI hA hA2 hkc hns, q_aldQ hx hb hml hown hts hN hK hI hA hA2 hkc hns, q_astQ hx hb hml hown hts hN hK hI hA hA2 hkc hns, q_max hx hb hml hown hts hN hK hI hA hA2 hkc hns, q_min hx hb hml hown hts hN hK hI hA hA2 hkc hns, q_copy hx hb hml hown hts hN hK hI hA hA2 hkc hns, q_callV hx hb hml hown hts hN hK hI hA hA2 hkc hns, q_callS hx hb hml hown hts hN hK hI hA hA2 hkc hns, ?_, hv, ?_, ?_⟩
  · intro pc L σ v ty hd h0; cases h0
  · intro pc L σ v hd h0; cases h0
  · intro pc L σ v cn hd h0; cases h0
end FLATC
