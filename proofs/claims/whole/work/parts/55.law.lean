def R_law : String := "AsWithTheLastLaw"
def lw_P (b : Addr) (xs : List Int32) (args : Array Value) (s : State) : Prop := args = #[.ref b] ∧ s.IntsAt b xs ∧ xs.length ≤ 256 ∧ (Jvm.Cond.and given_1 narrow_1).before args s = true
def lw_Q (_ : Array Value) (s : State) (o : Outcome) (t : State) : Prop := o = .returned (some (.int 1)) ∧ Framed s o t [] 600000 7302250
def lw_Z (below : List Frame) (a : Array Value) (s : State) : State → Prop := fun t => ∃ o, t.status = .running ∧ Ended t below o ∧ lw_Q a s o t
/-- the law's own end, with 1 on the stack, nothing written that was there before, its room as the claim has it -/
theorem lw_ret {p : Program} {l : Launch} {e : Env} {s : State} {m : MethodId} {below : List Frame} {meth : Method} {c : Code} {b : Nat} (hx : p.tables.exec = Jvm.exec) (hb : c.code = code) (hr : meth.sig.returnType = ret) (hlocks : meth.locks = false) {pc : Nat} {H : Heap} {ls : Array Slot} (hdg : decode code pc = .ok (.ireturn, 1)) : W p l e room_1 s m #[Value.ref b] below meth c H [] 600000 7302250 (lw_Z below #[Value.ref b] s) (F0 m pc ls [.int 1]) := by
  intro T hT X
  obtain ⟨fs, hret, hrun, hended, hW, hframe⟩ := X.leave (v := some (.int 1)) (hlocks := hlocks) (fun h => by rw [hr] at h; cases h)
  have hmeth' : T.vm.method? m = some meth := X.method'
  refine ⟨T.setFrames fs, ?_, .returned (some (.int 1)), hrun, hended, rfl, ⟨_, rfl⟩, hW, hframe⟩
  jvm_step X.here [X.here.top, hx, hb, hdg, hmeth', hr, ret, narrow_b1]
  (try refine ⟨rfl, ?_⟩); (try refine ⟨rfl, ?_⟩)
  first | (intro acts; rw [hret _ acts rfl rfl rfl]) | rw [hret _ _ rfl rfl rfl]
  exact Steps.refl _
/-- what holds at the law's entry: the machine, the code, the tables' words (any of lw_tbl by 'hts w (by decide +kernel)'), the script of L ints xs at the cell b, what the Statement gives of the start (any of its parts by flat_of_before) -/
def lw_At (p : Program) (s : State) (m : MethodId) (meth : Method) (c : Code) (b L : Nat) (xs : Nat → Int32) : Prop :=
  p.tables.exec = Jvm.exec ∧ c.code = code ∧ meth.sig.returnType = ret ∧ c.maxLocals = 4 ∧ s.vm.findClass R_law = some m.cls ∧ (∀ w ∈ lw_tbl, w.before #[Value.ref b] s = true) ∧ va_X b L xs s s.heap ∧ b < s.heap.size ∧ meth.locks = false ∧ (Jvm.Cond.and given_1 narrow_1).before #[Value.ref b] s = true


abbrev l_G : Type := Nat → Nat → List Value → f_Mem → f_Mem → Prop
def bz (y : Int32) : Int := if y = 0 then 0 else 1
theorem bz_01 (y : Int32) : bz y = 0 ∨ bz y = 1 := by unfold bz; split <;> simp
theorem l_rg (x : Int32) : -2147483648 ≤ x.toInt ∧ x.toInt < 2147483648 := by
  have h1 := Int32.le_toInt x
  have h2 := Int32.toInt_lt x
  omega
def tgL : List Nat := [172, 195, 208, 221, 234, 267, 290, 313, 346, 379, 402, 435, 448, 471, 484, 527, 540, 563, 586, 619, 632, 645, 668, 691, 714, 773, 796, 829, 872, 885, 898, 921]
def lr_arg (L : Nat) (xs : Nat → Int32) (G : l_G) : Prop := ∀ (pc n j : Nat) (z : Int) (st : List Value) (m1 m2 : f_Mem), decode cL_law pc = .ok (.aload_n 0, 1) → decode cL_law (pc + 1) = .ok (.iload_n 3, 1) → decode cL_law (pc + 2) = .ok (.iconst z, 1) → decode cL_law (pc + 3) = .ok (.iadd, 1) → decode cL_law (pc + 4) = .ok (.iaload, 1) → z = (j : Int) → n + j < L → G (pc + 5) n (.int (iI (xs (n + j)).toInt) :: st) m1 m2 → G pc n st m1 m2
def lr_t (a : Nat) (k : Fin 4) (G : l_G) : Prop := ∀ (pc n : Nat) (st : List Value) (m1 m2 : f_Mem), decode cL_law pc = .ok (.aload_n k, 1) → G (pc + 1) n (.ref a :: st) m1 m2 → G pc n st m1 m2
def lr_c1 (E : f_E) (ad1 : Nat → Nat) (G : l_G) : Prop := ∀ (pc n : Nat) (st As : List Value) (m1 m2 : f_Mem) (i d : Nat) (Y : f_Y) (z : Int) (PM : f_Mem → Prop), decode cL_law pc = .ok (.invokevirtual i, 3) → f_LV RL i Y As.length → Y.1.cls = RX7 → FZ (k_E E ad1) sC Y d (.ref (ad1 0) :: As) m1 z PM → d ≤ 1000 → (st.map fun v => v.category).sum ≤ 8 → (∀ u, PM u → G (pc + 3) n (.int (iI z) :: st) u m2) → G pc n (As.reverse ++ .ref (ad1 0) :: st) m1 m2
def lr_c2 (E : f_E) (ad2 : Nat → Nat) (G : l_G) : Prop := ∀ (pc n : Nat) (st As : List Value) (m1 m2 : f_Mem) (i d : Nat) (Y : f_Y) (z : Int) (PM : f_Mem → Prop), decode cL_law pc = .ok (.invokevirtual i, 3) → f_LV RL i Y As.length → Y.1.cls = RX8 → FZ (k_E E ad2) sM Y d (.ref (ad2 0) :: As) m2 z PM → d ≤ 1000 → (st.map fun v => v.category).sum ≤ 8 → (∀ u, PM u → G (pc + 3) n (.int (iI z) :: st) m1 u) → G pc n (As.reverse ++ .ref (ad2 0) :: st) m1 m2
def lr_eq (G : l_G) : Prop := ∀ (pc n tgt : Nat) (off : Int) (st : List Value) (m1 m2 : f_Mem) (x : Int32), decode cL_law pc = .ok (.if_icmp .eq off, 3) → (pc : Int) + off = (tgt : Int) → G tgt n st m1 m2 → G pc n (.int x :: .int x :: st) m1 m2
def lr_bool (G : l_G) : Prop := ∀ (pc n : Nat) (st : List Value) (m1 m2 : f_Mem) (y : Int32), decode cL_law pc = .ok (.ifCond .eq 7, 3) → decode cL_law (pc + 3) = .ok (.iconst 1, 1) → decode cL_law (pc + 4) = .ok (.goto 4, 3) → decode cL_law (pc + 7) = .ok (.iconst 0, 1) → G (pc + 8) n (.int (iI (bz y)) :: st) m1 m2 → G pc n (.int y :: st) m1 m2
def lr_end (G : l_G) : Prop := ∀ (n : Nat) (m1 m2 : f_Mem), G 18 (n + 4) [] m1 m2 → G 921 n [] m1 m2
def lr_head (L : Nat) (G : l_G) : Prop := ∀ (n : Nat) (m1 m2 : f_Mem), n ≤ 300 → (L < n + 4 → G 927 n [] m1 m2) → (n + 4 ≤ L → ∀ k, k < 32 → G (tgL.getD k 0) n [] m1 m2) → G 18 n [] m1 m2
def lr_ret (G : l_G) : Prop := ∀ (n : Nat) (m1 m2 : f_Mem), G 927 n [] m1 m2
def RulL (E : f_E) (ad1 ad2 : Nat → Nat) (L : Nat) (xs : Nat → Int32) (G : l_G) : Prop := lr_arg L xs G ∧ lr_t (ad1 0) 1 G ∧ lr_t (ad2 0) 2 G ∧ lr_c1 E ad1 G ∧ lr_c2 E ad2 G ∧ lr_eq G ∧ lr_bool G ∧ lr_end G ∧ lr_head L G ∧ lr_ret G
section LAW
variable {p : Program} {e : Env} {s : State} {m : MethodId} {below : List Frame} {meth : Method} {c : Code} {E : f_E} {ad1 ad2 : Nat → Nat} {b L : Nat} {xs : Nat → Int32} {kk nn : Nat}
theorem l_pay {args : Array Value} {own : String} {index : Nat} {Y : f_Y} {n d : Nat} (hts : ∀ w ∈ tb, w.before args s = true) (hc : f_LC Y) (hh : f_hd Y n) (hd : d ≤ 1000) (hl : (Cond.methodLink own index Y.1).before args s = true) : CallB room_1 s args own index Y.1 Y.2.1 Y.2.2.1 Y.2.2.2 (Cond.code Y.1 Y.2.1 Y.2.2.1 Y.2.2.2 :: tb) (f_rm d) 0 0 n := by
  refine callB_of (Ts := tb) n hts (fun w hw => ?_) rfl rfl rfl (hts _ hc.2) hl hh.1 ⟨?_, ?_⟩
  · rcases List.mem_cons.mp hw with h | h
    · subst h; exact ⟨hc.1, tb_good _ hc.1⟩
    · exact ⟨h, tb_good _ h⟩
  · show d + 1 ≤ 2048
    omega
  · have := hh.2
    show 8 + (Y.2.2.1 + 11) + 60 * d ≤ 84000
    omega
theorem l_payN {args : Array Value} {own host : String} {index : Nat} {Y : f_Y} {n d : Nat} (hts : ∀ w ∈ tb, w.before args s = true) (hc : f_LC Y) (hh : f_hd Y n) (hd : d ≤ 1000) (hl : va_Nw (.methodLinkNest own index Y.1 host) s) : va_CN room_1 s args own index Y.1 host Y.2.1 Y.2.2.1 Y.2.2.2 (Cond.code Y.1 Y.2.1 Y.2.2.1 Y.2.2.2 :: tb) (f_rm d) 0 0 n := by
  refine va_cnB (Ts := tb) n hts (fun w hw => ?_) rfl rfl rfl hl (hts _ hc.2) hh.1 ⟨?_, ?_⟩
  · rcases List.mem_cons.mp hw with h | h
    · subst h; exact ⟨hc.1, tb_good _ hc.1⟩
    · exact ⟨h, tb_good _ h⟩
  · show d + 1 ≤ 2048
    omega
  · have := hh.2
    show 8 + (Y.2.2.1 + 11) + 60 * d ≤ 84000
    omega
theorem l_payI {args : Array Value} {own : String} {index : Nat} {Y : f_Y} {n d mc ms : Nat} (hts : ∀ w ∈ tb, w.before args s = true) (hc : f_LC Y) (hh : f_hd Y n) (hd : d ≤ 1000) (hl : (Cond.methodLink own index Y.1).before args s = true) : CallB room_1 s args own index Y.1 Y.2.1 Y.2.2.1 Y.2.2.2 (Cond.code Y.1 Y.2.1 Y.2.2.1 Y.2.2.2 :: tb) (k_rm d mc ms) mc ms n := by
  refine callB_of (Ts := tb) n hts (fun w hw => ?_) rfl rfl rfl (hts _ hc.2) hl hh.1 ⟨?_, ?_⟩
  · rcases List.mem_cons.mp hw with h | h
    · subst h; exact ⟨hc.1, tb_good _ hc.1⟩
    · exact ⟨h, tb_good _ h⟩
  · show d + 1 ≤ 2048
    omega
  · have := hh.2
    show 8 + (Y.2.2.1 + 11) + 60 * d ≤ 84000
    omega
def l_L (b a1 a2 n : Nat) : f_L := [some (.ref b), some (.ref a1), some (.ref a2), some (.int (iI n))]
def l_GG (p : Program) (e : Env) (s : State) (m : MethodId) (below : List Frame) (meth : Method) (c : Code) (E : f_E) (ad1 ad2 : Nat → Nat) (b kk nn : Nat) : l_G := fun pc n st m1 m2 => ∀ (H : Heap) (locs : List Loc) (ls : Array Slot), f_P (k_E E ad1) sC m1 H → f_P (k_E E ad2) sM m2 H → va_S (fun q => s.heap.size ≤ q) s.heap H locs → f_ls ls 4 (l_L b (ad1 0) (ad2 0) n) → W p E.1 e room_1 s m #[Value.ref b] below meth c H locs kk nn (lw_Z below #[Value.ref b] s) (F0 m pc ls st)
theorem lt_arg (hx : p.tables.exec = Jvm.exec) (hb : c.code = cL_law) (hml : c.maxLocals = 4) (hown : s.vm.findClass RL = some m.cls) (hts : ∀ w ∈ tb, w.before #[Value.ref b] s = true) (hN : f_NW s) (hK : f_K E s) (hX : va_X b L xs s s.heap) (hbl : b < s.heap.size) (hL : L ≤ 256) (hI1 : f_I (k_E E ad1) sC) (hI2 : f_I (k_E E ad2) sM) (hA1 : ∀ k, k < 144 → s.heap.size ≤ ad1 k) (hA2 : ∀ k, k < 20 → s.heap.size ≤ ad2 k) (hdj : ∀ i j, i < 144 → j < 20 → ad1 i ≠ ad2 j) (hkc : kk ≤ 600000) (hns : nn ≤ 7302250) : lr_arg L xs (l_GG p e s m below meth c E ad1 ad2 b kk nn) := by
  intro pc n j z st m1 m2 d0 d1 d2 d3 d4 hz hn k H locs ls hP1 hP2 hS hl
  have hbA : ¬ (fun q => s.heap.size ≤ q) b := Nat.not_le.mpr hbl
  refine lv_aload_n hx hb d0 rfl (hl.at (i := 0) rfl) ?_
  refine lv_iload_n hx hb d1 rfl (hl.at (i := 3) rfl) ?_
  refine lv_iconst hx hb d2 rfl ?_
  refine lv_iadd hx hb d3 ?_
  have e1 : iI (n : Int) + Int32.ofInt z = iI ((n + j : Nat) : Int) := by
    rw [hz]
    exact (iI_add _ _).trans (congrArg iI (by omega))
  rw [e1]
  refine va_sld hx hb hX hbl hbA hS (iI_in (by omega) (by omega)) d4 ?_
  rw [iI_clamp (by omega) (by omega), Int.toNat_natCast, iI_of (xs (n + j))]
  exact k H locs ls hP1 hP2 hS hl
theorem lt_t1 (hx : p.tables.exec = Jvm.exec) (hb : c.code = cL_law) (hml : c.maxLocals = 4) (hown : s.vm.findClass RL = some m.cls) (hts : ∀ w ∈ tb, w.before #[Value.ref b] s = true) (hN : f_NW s) (hK : f_K E s) (hX : va_X b L xs s s.heap) (hbl : b < s.heap.size) (hL : L ≤ 256) (hI1 : f_I (k_E E ad1) sC) (hI2 : f_I (k_E E ad2) sM) (hA1 : ∀ k, k < 144 → s.heap.size ≤ ad1 k) (hA2 : ∀ k, k < 20 → s.heap.size ≤ ad2 k) (hdj : ∀ i j, i < 144 → j < 20 → ad1 i ≠ ad2 j) (hkc : kk ≤ 600000) (hns : nn ≤ 7302250) : lr_t (ad1 0) 1 (l_GG p e s m below meth c E ad1 ad2 b kk nn) := by
  intro pc n st m1 m2 d0 k H locs ls hP1 hP2 hS hl
  exact lv_aload_n hx hb d0 rfl (hl.at (i := 1) rfl) (k H locs ls hP1 hP2 hS hl)
theorem lt_t2 (hx : p.tables.exec = Jvm.exec) (hb : c.code = cL_law) (hml : c.maxLocals = 4) (hown : s.vm.findClass RL = some m.cls) (hts : ∀ w ∈ tb, w.before #[Value.ref b] s = true) (hN : f_NW s) (hK : f_K E s) (hX : va_X b L xs s s.heap) (hbl : b < s.heap.size) (hL : L ≤ 256) (hI1 : f_I (k_E E ad1) sC) (hI2 : f_I (k_E E ad2) sM) (hA1 : ∀ k, k < 144 → s.heap.size ≤ ad1 k) (hA2 : ∀ k, k < 20 → s.heap.size ≤ ad2 k) (hdj : ∀ i j, i < 144 → j < 20 → ad1 i ≠ ad2 j) (hkc : kk ≤ 600000) (hns : nn ≤ 7302250) : lr_t (ad2 0) 2 (l_GG p e s m below meth c E ad1 ad2 b kk nn) := by
  intro pc n st m1 m2 d0 k H locs ls hP1 hP2 hS hl
  exact lv_aload_n hx hb d0 rfl (hl.at (i := 2) rfl) (k H locs ls hP1 hP2 hS hl)
theorem lt_c1 (hx : p.tables.exec = Jvm.exec) (hb : c.code = cL_law) (hml : c.maxLocals = 4) (hown : s.vm.findClass RL = some m.cls) (hts : ∀ w ∈ tb, w.before #[Value.ref b] s = true) (hN : f_NW s) (hK : f_K E s) (hX : va_X b L xs s s.heap) (hbl : b < s.heap.size) (hL : L ≤ 256) (hI1 : f_I (k_E E ad1) sC) (hI2 : f_I (k_E E ad2) sM) (hA1 : ∀ k, k < 144 → s.heap.size ≤ ad1 k) (hA2 : ∀ k, k < 20 → s.heap.size ≤ ad2 k) (hdj : ∀ i j, i < 144 → j < 20 → ad1 i ≠ ad2 j) (hkc : kk ≤ 600000) (hns : nn ≤ 7302250) : lr_c1 E ad1 (l_GG p e s m below meth c E ad1 ad2 b kk nn) := by
  intro pc n st As m1 m2 i d Y z PM hd hlv hcls hM hD hr k H locs ls hP1 hP2 hS hl
  obtain ⟨lc, li, ls9, lk, lh⟩ := hlv
  have he := f_wl_at (k_E E ad1) sC m1 (show 0 < sC.1 by decide)
  rw [f_cell_o (show sC.2 0 = _ from rfl)] at he
  have hrec := va_recv (tys := f_tys E) hK hP1 (ci := 7) rfl he
  have hrec2 : ∃ cell : Cell, H[ad1 0]? = some cell ∧ cell.vm.isStatics = false ∧ s.vm.findClass Y.1.cls = some cell.cls := by
    rw [hcls]; exact hrec
  have hroom : 2 * (F0 m pc ls (As.reverse ++ .ref (ad1 0) :: st)).monitorRoom + (st.map fun v => v.category).sum ≤ 8 := lv_room hr
  have hpre : PreV s H Y.1.cls (ad1 0) (f_Pc (k_E E ad1) sC (.ref (ad1 0) :: As) m1 H.size) As := ⟨f_FB, hrec2, fun U hU hW => ⟨rfl, by rw [hU], by rw [hU]; exact hP1, va_K.moved hW.alike hK, hN.warm hW, hI1⟩⟩
  have hAA : ∀ q, f_A (k_E E ad1) sC H.size q → (fun q => s.heap.size ≤ q) q := fun q h => by
    rcases h with ⟨k9, h8, rfl⟩ | h
    · exact hA1 k9 h8
    · exact Nat.le_trans hS.1 h
  have fin : ∀ (r : Int32) (u : f_Mem) (H1 : Heap) (locs1 : List Loc), (r = iI z ∧ PM u) → f_P (k_E E ad1) sC u H1 → va_S (fun q => s.heap.size ≤ q) s.heap H1 locs1 → H.size ≤ H1.size → (∀ q, q < H.size → ¬ f_A (k_E E ad1) sC H.size q → H1[q]? = H[q]?) → W p E.1 e room_1 s m #[Value.ref b] below meth c H1 locs1 kk nn (lw_Z below #[Value.ref b] s) (F0 m (pc + 3) ls ((eI r).toList ++ st)) := fun r u H1 locs1 hp hPw hS1 _ hkp => by
    obtain ⟨rfl, hpm⟩ := hp
    have hPo : f_P (k_E E ad2) sM m2 H1 := va_P.kept hP2 (fun j x hj => by
      have hlt := (hP2 j x hj).lt
      obtain ⟨hj2, hx2⟩ := f_wl_of _ _ _ hj
      refine hkp x.1 hlt (fun q => ?_)
      rcases q with ⟨k9, h8, h7⟩ | q
      · rw [hx2] at h7
        exact hdj k9 j h8 hj2 h7.symm
      · omega)
    exact k u hpm H1 locs1 ls hPw hPo hS1 hl
  rcases lk with lk | ⟨host, lk⟩
  · exact fc_callF (E := k_E E ad1) (va_runV (C := Y.1.cls) ⟨hx, hb, hml, hown, hts⟩ (hM H.size) ⟨l_pay hts lc lh hD (hts _ lk), hts _ li, hts _ ls9⟩ hpre rfl rfl hl.1.1 rfl hroom hd ⟨hkc, hns⟩) hS (fun q _ h => hAA q h) hAA fin
  · exact fc_callF (E := k_E E ad1) (va_runVN (C := Y.1.cls) ⟨hx, hb, hml, hown, hts⟩ (hM H.size) ⟨l_payN hts lc lh hD (hN _ lk), hts _ li, hts _ ls9⟩ hpre rfl rfl hl.1.1 rfl hroom hd ⟨hkc, hns⟩) hS (fun q _ h => hAA q h) hAA fin
theorem lt_c2 (hx : p.tables.exec = Jvm.exec) (hb : c.code = cL_law) (hml : c.maxLocals = 4) (hown : s.vm.findClass RL = some m.cls) (hts : ∀ w ∈ tb, w.before #[Value.ref b] s = true) (hN : f_NW s) (hK : f_K E s) (hX : va_X b L xs s s.heap) (hbl : b < s.heap.size) (hL : L ≤ 256) (hI1 : f_I (k_E E ad1) sC) (hI2 : f_I (k_E E ad2) sM) (hA1 : ∀ k, k < 144 → s.heap.size ≤ ad1 k) (hA2 : ∀ k, k < 20 → s.heap.size ≤ ad2 k) (hdj : ∀ i j, i < 144 → j < 20 → ad1 i ≠ ad2 j) (hkc : kk ≤ 600000) (hns : nn ≤ 7302250) : lr_c2 E ad2 (l_GG p e s m below meth c E ad1 ad2 b kk nn) := by
  intro pc n st As m1 m2 i d Y z PM hd hlv hcls hM hD hr k H locs ls hP1 hP2 hS hl
  obtain ⟨lc, li, ls9, lk, lh⟩ := hlv
  have he := f_wl_at (k_E E ad2) sM m2 (show 0 < sM.1 by decide)
  rw [f_cell_o (show sM.2 0 = _ from rfl)] at he
  have hrec := va_recv (tys := f_tys E) hK hP2 (ci := 8) rfl he
  have hrec2 : ∃ cell : Cell, H[ad2 0]? = some cell ∧ cell.vm.isStatics = false ∧ s.vm.findClass Y.1.cls = some cell.cls := by
    rw [hcls]; exact hrec
  have hroom : 2 * (F0 m pc ls (As.reverse ++ .ref (ad2 0) :: st)).monitorRoom + (st.map fun v => v.category).sum ≤ 8 := lv_room hr
  have hpre : PreV s H Y.1.cls (ad2 0) (f_Pc (k_E E ad2) sM (.ref (ad2 0) :: As) m2 H.size) As := ⟨f_FB, hrec2, fun U hU hW => ⟨rfl, by rw [hU], by rw [hU]; exact hP2, va_K.moved hW.alike hK, hN.warm hW, hI2⟩⟩
  have hAA : ∀ q, f_A (k_E E ad2) sM H.size q → (fun q => s.heap.size ≤ q) q := fun q h => by
    rcases h with ⟨k9, h8, rfl⟩ | h
    · exact hA2 k9 h8
    · exact Nat.le_trans hS.1 h
  have fin : ∀ (r : Int32) (u : f_Mem) (H1 : Heap) (locs1 : List Loc), (r = iI z ∧ PM u) → f_P (k_E E ad2) sM u H1 → va_S (fun q => s.heap.size ≤ q) s.heap H1 locs1 → H.size ≤ H1.size → (∀ q, q < H.size → ¬ f_A (k_E E ad2) sM H.size q → H1[q]? = H[q]?) → W p E.1 e room_1 s m #[Value.ref b] below meth c H1 locs1 kk nn (lw_Z below #[Value.ref b] s) (F0 m (pc + 3) ls ((eI r).toList ++ st)) := fun r u H1 locs1 hp hPw hS1 _ hkp => by
    obtain ⟨rfl, hpm⟩ := hp
    have hPo : f_P (k_E E ad1) sC m1 H1 := va_P.kept hP1 (fun j x hj => by
      have hlt := (hP1 j x hj).lt
      obtain ⟨hj2, hx2⟩ := f_wl_of _ _ _ hj
      refine hkp x.1 hlt (fun q => ?_)
      rcases q with ⟨k9, h8, h7⟩ | q
      · rw [hx2] at h7
        exact hdj j k9 hj2 h8 h7
      · omega)
    exact k u hpm H1 locs1 ls hPo hPw hS1 hl
  rcases lk with lk | ⟨host, lk⟩
  · exact fc_callF (E := k_E E ad2) (va_runV (C := Y.1.cls) ⟨hx, hb, hml, hown, hts⟩ (hM H.size) ⟨l_pay hts lc lh hD (hts _ lk), hts _ li, hts _ ls9⟩ hpre rfl rfl hl.1.1 rfl hroom hd ⟨hkc, hns⟩) hS (fun q _ h => hAA q h) hAA fin
  · exact fc_callF (E := k_E E ad2) (va_runVN (C := Y.1.cls) ⟨hx, hb, hml, hown, hts⟩ (hM H.size) ⟨l_payN hts lc lh hD (hN _ lk), hts _ li, hts _ ls9⟩ hpre rfl rfl hl.1.1 rfl hroom hd ⟨hkc, hns⟩) hS (fun q _ h => hAA q h) hAA fin
theorem lt_eq (hx : p.tables.exec = Jvm.exec) (hb : c.code = cL_law) (hml : c.maxLocals = 4) (hown : s.vm.findClass RL = some m.cls) (hts : ∀ w ∈ tb, w.before #[Value.ref b] s = true) (hN : f_NW s) (hK : f_K E s) (hX : va_X b L xs s s.heap) (hbl : b < s.heap.size) (hL : L ≤ 256) (hI1 : f_I (k_E E ad1) sC) (hI2 : f_I (k_E E ad2) sM) (hA1 : ∀ k, k < 144 → s.heap.size ≤ ad1 k) (hA2 : ∀ k, k < 20 → s.heap.size ≤ ad2 k) (hdj : ∀ i j, i < 144 → j < 20 → ad1 i ≠ ad2 j) (hkc : kk ≤ 600000) (hns : nn ≤ 7302250) : lr_eq (l_GG p e s m below meth c E ad1 ad2 b kk nn) := by
  intro pc n tgt off st m1 m2 x d0 ht k H locs ls hP1 hP2 hS hl
  exact lv_icmp_eq hx hb d0 ht (fun _ => k H locs ls hP1 hP2 hS hl) (fun z => absurd rfl z)
theorem lt_bool (hx : p.tables.exec = Jvm.exec) (hb : c.code = cL_law) (hml : c.maxLocals = 4) (hown : s.vm.findClass RL = some m.cls) (hts : ∀ w ∈ tb, w.before #[Value.ref b] s = true) (hN : f_NW s) (hK : f_K E s) (hX : va_X b L xs s s.heap) (hbl : b < s.heap.size) (hL : L ≤ 256) (hI1 : f_I (k_E E ad1) sC) (hI2 : f_I (k_E E ad2) sM) (hA1 : ∀ k, k < 144 → s.heap.size ≤ ad1 k) (hA2 : ∀ k, k < 20 → s.heap.size ≤ ad2 k) (hdj : ∀ i j, i < 144 → j < 20 → ad1 i ≠ ad2 j) (hkc : kk ≤ 600000) (hns : nn ≤ 7302250) : lr_bool (l_GG p e s m below meth c E ad1 ad2 b kk nn) := by
  intro pc n st m1 m2 y d0 d1 d2 d3 k H locs ls hP1 hP2 hS hl
  unfold bz at k
  refine lv_if_eq (tgt := pc + 7) hx hb d0 (by omega) (fun z => ?_) (fun z => ?_)
  · rw [if_pos z] at k
    exact lv_iconst hx hb d3 rfl (k H locs ls hP1 hP2 hS hl)
  · rw [if_neg z] at k
    refine lv_iconst hx hb d1 rfl ?_
    exact lv_goto (tgt := pc + 8) hx hb d2 (by omega) (k H locs ls hP1 hP2 hS hl)
theorem lt_end (hx : p.tables.exec = Jvm.exec) (hb : c.code = cL_law) (hml : c.maxLocals = 4) (hown : s.vm.findClass RL = some m.cls) (hts : ∀ w ∈ tb, w.before #[Value.ref b] s = true) (hN : f_NW s) (hK : f_K E s) (hX : va_X b L xs s s.heap) (hbl : b < s.heap.size) (hL : L ≤ 256) (hI1 : f_I (k_E E ad1) sC) (hI2 : f_I (k_E E ad2) sM) (hA1 : ∀ k, k < 144 → s.heap.size ≤ ad1 k) (hA2 : ∀ k, k < 20 → s.heap.size ≤ ad2 k) (hdj : ∀ i j, i < 144 → j < 20 → ad1 i ≠ ad2 j) (hkc : kk ≤ 600000) (hns : nn ≤ 7302250) : lr_end (l_GG p e s m below meth c E ad1 ad2 b kk nn) := by
  intro n m1 m2 k H locs ls hP1 hP2 hS hl
  obtain ⟨q, hq⟩ := List.getElem?_of_mem ((f_lv_mem (l_L b (ad1 0) (ad2 0) n) 0 (3, .int (iI n))).mpr ⟨3, by simp, rfl⟩)
  refine lv_iinc (v := iI ((n + 4 : Nat) : Int)) hx hb dL_law_921 hl.1 hq ((iI_add _ _).trans (congrArg iI (by omega))) (by decide) rfl (fun ls2 hl2 => ?_)
  refine lv_goto (tgt := 18) hx hb dL_law_924 (by decide) ?_
  exact k H locs ls2 hP1 hP2 hS (f_ls_set hl.2 rfl hl2)
theorem lt_head (hx : p.tables.exec = Jvm.exec) (hb : c.code = cL_law) (hml : c.maxLocals = 4) (hown : s.vm.findClass RL = some m.cls) (hts : ∀ w ∈ tb, w.before #[Value.ref b] s = true) (hN : f_NW s) (hK : f_K E s) (hX : va_X b L xs s s.heap) (hbl : b < s.heap.size) (hL : L ≤ 256) (hI1 : f_I (k_E E ad1) sC) (hI2 : f_I (k_E E ad2) sM) (hA1 : ∀ k, k < 144 → s.heap.size ≤ ad1 k) (hA2 : ∀ k, k < 20 → s.heap.size ≤ ad2 k) (hdj : ∀ i j, i < 144 → j < 20 → ad1 i ≠ ad2 j) (hkc : kk ≤ 600000) (hns : nn ≤ 7302250) : lr_head L (l_GG p e s m below meth c E ad1 ad2 b kk nn) := by
  intro n m1 m2 hn kt kf H locs ls hP1 hP2 hS hl
  have hbA : ¬ (fun q => s.heap.size ≤ q) b := Nat.not_le.mpr hbl
  refine lv_iload_n hx hb dL_law_18 rfl (hl.at (i := 3) rfl) ?_
  refine lv_aload_n hx hb dL_law_19 rfl (hl.at (i := 0) rfl) ?_
  refine va_slen hx hb hX hbl hbA hS dL_law_20 ?_
  refine lv_iconst hx hb dL_law_21 rfl ?_
  refine lv_isub hx hb dL_law_22 ?_
  have e1 : Int32.ofNat L - Int32.ofInt 4 = iI ((L : Int) - 4) := by
    rw [iI_ofNat]
    exact iI_sub _ _
  rw [e1]
  refine lv_icmp_gt (tgt := 927) hx hb dL_law_23 (by decide) (fun z => ?_) (fun z => ?_)
  · rw [iI_lt (by omega) (by omega)] at z
    exact kt (by omega) H locs ls hP1 hP2 hS hl
  rw [iI_lt (by omega) (by omega)] at z
  refine lv_aload_n hx hb dL_law_26 rfl (hl.at (i := 0) rfl) ?_
  refine lv_iload_n hx hb dL_law_27 rfl (hl.at (i := 3) rfl) ?_
  refine va_sld hx hb hX hbl hbA hS (iI_in (by omega) (by omega)) dL_law_28 ?_
  refine lv_bipush hx hb dL_law_29 rfl ?_
  refine lv_iand hx hb dL_law_31 ?_
  obtain ⟨k, hk, ek⟩ := pk_andE (xs (iI (n : Int)).toNatClampNeg) (m := (Int8.ofInt 31).toInt32) 5 (by decide)
  rw [ek, iI_nI]
  have kf2 := kf (by omega) k hk
  clear ek
  match k, hk with
  | 0, _ => exact lv_tableIn (tgt := 172) hx hb dL_law_32 (by decide) (by decide) (show _ = some 140 by decide) (by decide) (kf2 H locs ls hP1 hP2 hS hl)
  | 1, _ => exact lv_tableIn (tgt := 195) hx hb dL_law_32 (by decide) (by decide) (show _ = some 163 by decide) (by decide) (kf2 H locs ls hP1 hP2 hS hl)
  | 2, _ => exact lv_tableIn (tgt := 208) hx hb dL_law_32 (by decide) (by decide) (show _ = some 176 by decide) (by decide) (kf2 H locs ls hP1 hP2 hS hl)
  | 3, _ => exact lv_tableIn (tgt := 221) hx hb dL_law_32 (by decide) (by decide) (show _ = some 189 by decide) (by decide) (kf2 H locs ls hP1 hP2 hS hl)
  | 4, _ => exact lv_tableIn (tgt := 234) hx hb dL_law_32 (by decide) (by decide) (show _ = some 202 by decide) (by decide) (kf2 H locs ls hP1 hP2 hS hl)
  | 5, _ => exact lv_tableIn (tgt := 267) hx hb dL_law_32 (by decide) (by decide) (show _ = some 235 by decide) (by decide) (kf2 H locs ls hP1 hP2 hS hl)
  | 6, _ => exact lv_tableIn (tgt := 290) hx hb dL_law_32 (by decide) (by decide) (show _ = some 258 by decide) (by decide) (kf2 H locs ls hP1 hP2 hS hl)
  | 7, _ => exact lv_tableIn (tgt := 313) hx hb dL_law_32 (by decide) (by decide) (show _ = some 281 by decide) (by decide) (kf2 H locs ls hP1 hP2 hS hl)
  | 8, _ => exact lv_tableIn (tgt := 346) hx hb dL_law_32 (by decide) (by decide) (show _ = some 314 by decide) (by decide) (kf2 H locs ls hP1 hP2 hS hl)
  | 9, _ => exact lv_tableIn (tgt := 379) hx hb dL_law_32 (by decide) (by decide) (show _ = some 347 by decide) (by decide) (kf2 H locs ls hP1 hP2 hS hl)
  | 10, _ => exact lv_tableIn (tgt := 402) hx hb dL_law_32 (by decide) (by decide) (show _ = some 370 by decide) (by decide) (kf2 H locs ls hP1 hP2 hS hl)
  | 11, _ => exact lv_tableIn (tgt := 435) hx hb dL_law_32 (by decide) (by decide) (show _ = some 403 by decide) (by decide) (kf2 H locs ls hP1 hP2 hS hl)
  | 12, _ => exact lv_tableIn (tgt := 448) hx hb dL_law_32 (by decide) (by decide) (show _ = some 416 by decide) (by decide) (kf2 H locs ls hP1 hP2 hS hl)
  | 13, _ => exact lv_tableIn (tgt := 471) hx hb dL_law_32 (by decide) (by decide) (show _ = some 439 by decide) (by decide) (kf2 H locs ls hP1 hP2 hS hl)
  | 14, _ => exact lv_tableIn (tgt := 484) hx hb dL_law_32 (by decide) (by decide) (show _ = some 452 by decide) (by decide) (kf2 H locs ls hP1 hP2 hS hl)
  | 15, _ => exact lv_tableIn (tgt := 527) hx hb dL_law_32 (by decide) (by decide) (show _ = some 495 by decide) (by decide) (kf2 H locs ls hP1 hP2 hS hl)
  | 16, _ => exact lv_tableIn (tgt := 540) hx hb dL_law_32 (by decide) (by decide) (show _ = some 508 by decide) (by decide) (kf2 H locs ls hP1 hP2 hS hl)
  | 17, _ => exact lv_tableIn (tgt := 563) hx hb dL_law_32 (by decide) (by decide) (show _ = some 531 by decide) (by decide) (kf2 H locs ls hP1 hP2 hS hl)
  | 18, _ => exact lv_tableIn (tgt := 586) hx hb dL_law_32 (by decide) (by decide) (show _ = some 554 by decide) (by decide) (kf2 H locs ls hP1 hP2 hS hl)
  | 19, _ => exact lv_tableIn (tgt := 619) hx hb dL_law_32 (by decide) (by decide) (show _ = some 587 by decide) (by decide) (kf2 H locs ls hP1 hP2 hS hl)
  | 20, _ => exact lv_tableIn (tgt := 632) hx hb dL_law_32 (by decide) (by decide) (show _ = some 600 by decide) (by decide) (kf2 H locs ls hP1 hP2 hS hl)
  | 21, _ => exact lv_tableIn (tgt := 645) hx hb dL_law_32 (by decide) (by decide) (show _ = some 613 by decide) (by decide) (kf2 H locs ls hP1 hP2 hS hl)
  | 22, _ => exact lv_tableIn (tgt := 668) hx hb dL_law_32 (by decide) (by decide) (show _ = some 636 by decide) (by decide) (kf2 H locs ls hP1 hP2 hS hl)
  | 23, _ => exact lv_tableIn (tgt := 691) hx hb dL_law_32 (by decide) (by decide) (show _ = some 659 by decide) (by decide) (kf2 H locs ls hP1 hP2 hS hl)
  | 24, _ => exact lv_tableIn (tgt := 714) hx hb dL_law_32 (by decide) (by decide) (show _ = some 682 by decide) (by decide) (kf2 H locs ls hP1 hP2 hS hl)
  | 25, _ => exact lv_tableIn (tgt := 773) hx hb dL_law_32 (by decide) (by decide) (show _ = some 741 by decide) (by decide) (kf2 H locs ls hP1 hP2 hS hl)
  | 26, _ => exact lv_tableIn (tgt := 796) hx hb dL_law_32 (by decide) (by decide) (show _ = some 764 by decide) (by decide) (kf2 H locs ls hP1 hP2 hS hl)
  | 27, _ => exact lv_tableIn (tgt := 829) hx hb dL_law_32 (by decide) (by decide) (show _ = some 797 by decide) (by decide) (kf2 H locs ls hP1 hP2 hS hl)
  | 28, _ => exact lv_tableIn (tgt := 872) hx hb dL_law_32 (by decide) (by decide) (show _ = some 840 by decide) (by decide) (kf2 H locs ls hP1 hP2 hS hl)
  | 29, _ => exact lv_tableIn (tgt := 885) hx hb dL_law_32 (by decide) (by decide) (show _ = some 853 by decide) (by decide) (kf2 H locs ls hP1 hP2 hS hl)
  | 30, _ => exact lv_tableIn (tgt := 898) hx hb dL_law_32 (by decide) (by decide) (show _ = some 866 by decide) (by decide) (kf2 H locs ls hP1 hP2 hS hl)
  | 31, _ => exact lv_tableOut (tgt := 921) hx hb dL_law_32 (Or.inr (by decide)) (by decide) (kf2 H locs ls hP1 hP2 hS hl)
  | k + 32, hk => exact absurd hk (by omega)
theorem lt_ret (hx : p.tables.exec = Jvm.exec) (hb : c.code = cL_law) (hml : c.maxLocals = 4) (hown : s.vm.findClass RL = some m.cls) (hts : ∀ w ∈ tb, w.before #[Value.ref b] s = true) (hN : f_NW s) (hK : f_K E s) (hX : va_X b L xs s s.heap) (hbl : b < s.heap.size) (hL : L ≤ 256) (hI1 : f_I (k_E E ad1) sC) (hI2 : f_I (k_E E ad2) sM) (hA1 : ∀ k, k < 144 → s.heap.size ≤ ad1 k) (hA2 : ∀ k, k < 20 → s.heap.size ≤ ad2 k) (hdj : ∀ i j, i < 144 → j < 20 → ad1 i ≠ ad2 j) (hkc : kk ≤ 600000) (hns : nn ≤ 7302250) (hr : meth.sig.returnType = ret) (hlocks : meth.locks = false) : lr_ret (l_GG p e s m below meth c E ad1 ad2 b kk nn) := by
  intro n m1 m2 H locs ls hP1 hP2 hS hl
  refine va_forget hS.2.2 ?_
  refine lv_iconst hx hb dL_law_927 rfl ?_
  refine W.widen (k := 600000) (n := 7302250) hkc hns ?_
  exact lw_ret hx hb hr hlocks dL_law_928
theorem RulL_of (hx : p.tables.exec = Jvm.exec) (hb : c.code = cL_law) (hml : c.maxLocals = 4) (hown : s.vm.findClass RL = some m.cls) (hts : ∀ w ∈ tb, w.before #[Value.ref b] s = true) (hN : f_NW s) (hK : f_K E s) (hX : va_X b L xs s s.heap) (hbl : b < s.heap.size) (hL : L ≤ 256) (hI1 : f_I (k_E E ad1) sC) (hI2 : f_I (k_E E ad2) sM) (hA1 : ∀ k, k < 144 → s.heap.size ≤ ad1 k) (hA2 : ∀ k, k < 20 → s.heap.size ≤ ad2 k) (hdj : ∀ i j, i < 144 → j < 20 → ad1 i ≠ ad2 j) (hkc : kk ≤ 600000) (hns : nn ≤ 7302250) (hr : meth.sig.returnType = ret) (hlocks : meth.locks = false) : RulL E ad1 ad2 L xs (l_GG p e s m below meth c E ad1 ad2 b kk nn) := ⟨lt_arg hx hb hml hown hts hN hK hX hbl hL hI1 hI2 hA1 hA2 hdj hkc hns, lt_t1 hx hb hml hown hts hN hK hX hbl hL hI1 hI2 hA1 hA2 hdj hkc hns, lt_t2 hx hb hml hown hts hN hK hX hbl hL hI1 hI2 hA1 hA2 hdj hkc hns, lt_c1 hx hb hml hown hts hN hK hX hbl hL hI1 hI2 hA1 hA2 hdj hkc hns, lt_c2 hx hb hml hown hts hN hK hX hbl hL hI1 hI2 hA1 hA2 hdj hkc hns, lt_eq hx hb hml hown hts hN hK hX hbl hL hI1 hI2 hA1 hA2 hdj hkc hns, lt_bool hx hb hml hown hts hN hK hX hbl hL hI1 hI2 hA1 hA2 hdj hkc hns, lt_end hx hb hml hown hts hN hK hX hbl hL hI1 hI2 hA1 hA2 hdj hkc hns, lt_head hx hb hml hown hts hN hK hX hbl hL hI1 hI2 hA1 hA2 hdj hkc hns, lt_ret hx hb hml hown hts hN hK hX hbl hL hI1 hI2 hA1 hA2 hdj hkc hns hr hlocks⟩
end LAW
