
theorem l_eqi {args : Array Value} {s : State} {t : Term} {x : Int32} (h : (Cond.eq t (.int x)).before args s = true) : t.eval args s none [] s = some (.int x) := by
  have hu : (Term.int x).eval args s none [] s = some (.int x) := rfl
  simp only [Cond.before, Cond.holds, Cond.value, hu] at h
  cases ht : t.eval args s none [] s with
  | none => simp [ht] at h
  | some v => cases v <;> simp [ht] at h; rw [h]
theorem l_known {args : Array Value} {s : State} (hts : ∀ w ∈ tb, w.before args s = true) (hts0 : ∀ w ∈ lw_tbl, w.before args s = true) : ∃ D : va_G, ∀ (k : Nat) (q : vw_C), vwCl[k]? = some q → u_Kn s q.1 q.2.1 q.2.2 (D.1 k) (D.2 k) := by
  have h : ∀ k : Nat, ∃ d : ClassId × (Nat → Nat), ∀ q : vw_C, vwCl[k]? = some q → u_Kn s q.1 q.2.1 q.2.2 d.1 d.2 := by
    intro k
    match k with
    | 0 => obtain ⟨c0, i0, g0⟩ := u_known (C := RX0) (T := TX0) (N := 9) (n := 9) hts u_inX0 (hts0 (Cond.instantiable RX0 9) (List.mem_of_getElem? (i := 214) (by decide +kernel))); exact ⟨(c0, i0), fun q hq => by cases (show some (RX0, TX0, 9) = some q from hq); exact g0⟩
    | 1 => obtain ⟨c0, i0, g0⟩ := u_known (C := RX1) (T := TX1) (N := 8) (n := 8) hts u_inX1 (hts0 (Cond.instantiable RX1 8) (List.mem_of_getElem? (i := 88) (by decide +kernel))); exact ⟨(c0, i0), fun q hq => by cases (show some (RX1, TX1, 8) = some q from hq); exact g0⟩
    | 2 => obtain ⟨c0, i0, g0⟩ := u_known (C := RX2) (T := TX2) (N := 5) (n := 5) hts u_inX2 (hts0 (Cond.instantiable RX2 5) (List.mem_of_getElem? (i := 160) (by decide +kernel))); exact ⟨(c0, i0), fun q hq => by cases (show some (RX2, TX2, 5) = some q from hq); exact g0⟩
    | 3 => obtain ⟨c0, i0, g0⟩ := u_known (C := RX3) (T := TX3) (N := 2) (n := 2) hts u_inX3 (hts0 (Cond.instantiable RX3 2) (List.mem_of_getElem? (i := 71) (by decide +kernel))); exact ⟨(c0, i0), fun q hq => by cases (show some (RX3, TX3, 2) = some q from hq); exact g0⟩
    | 4 => obtain ⟨c0, i0, g0⟩ := u_known (C := RX4) (T := TX4) (N := 5) (n := 5) hts u_inX4 (hts0 (Cond.instantiable RX4 5) (List.mem_of_getElem? (i := 250) (by decide +kernel))); exact ⟨(c0, i0), fun q hq => by cases (show some (RX4, TX4, 5) = some q from hq); exact g0⟩
    | 5 => obtain ⟨c0, i0, g0⟩ := u_known (C := RX5) (T := TX5) (N := 3) (n := 3) hts u_inX5 (hts0 (Cond.instantiable RX5 3) (List.mem_of_getElem? (i := 142) (by decide +kernel))); exact ⟨(c0, i0), fun q hq => by cases (show some (RX5, TX5, 3) = some q from hq); exact g0⟩
    | 6 => obtain ⟨c0, i0, g0⟩ := u_known (C := RX6) (T := TX6) (N := 2) (n := 2) hts u_inX6 (hts0 (Cond.instantiable RX6 2) (List.mem_of_getElem? (i := 197) (by decide +kernel))); exact ⟨(c0, i0), fun q hq => by cases (show some (RX6, TX6, 2) = some q from hq); exact g0⟩
    | 7 => obtain ⟨c0, i0, g0⟩ := u_known (C := RX7) (T := TX7) (N := 12) (n := 12) hts u_inX7 (hts0 (Cond.instantiable RX7 12) (List.mem_of_getElem? (i := 63) (by decide +kernel))); exact ⟨(c0, i0), fun q hq => by cases (show some (RX7, TX7, 12) = some q from hq); exact g0⟩
    | 8 => obtain ⟨c0, i0, g0⟩ := u_known (C := RX8) (T := TX8) (N := 33) (n := 33) hts u_inX8 (hts0 (Cond.instantiable RX8 33) (List.mem_of_getElem? (i := 809) (by decide +kernel))); exact ⟨(c0, i0), fun q hq => by cases (show some (RX8, TX8, 33) = some q from hq); exact g0⟩
    | k + 9 => exact ⟨(0, fun _ => 0), fun q hq => absurd (show (none : Option vw_C) = some q from hq) (by simp)⟩
  exact ⟨(fun k => (Classical.choose (h k)).1, fun k => (Classical.choose (h k)).2), fun k q hq => Classical.choose_spec (h k) q hq⟩
theorem l_world {args : Array Value} {s : State} (l : Launch) (hts : ∀ w ∈ tb, w.before args s = true) (hts0 : ∀ w ∈ lw_tbl, w.before args s = true) : ∃ E : f_E, E.1 = l ∧ f_K E s := by
  obtain ⟨D, hD⟩ := l_known hts hts0
  obtain ⟨cI, kI, oI2, f1, f2, f3⟩ := Cond.arrayClass_spec (hts _ tb_arI)
  obtain ⟨oQ, cQ, kQ, g1, g2, g3, g4, g5⟩ := Cond.arrayOver_spec (hts0 (Cond.arrayOver (.object RX2)) (List.mem_of_getElem? (i := 204) (by decide +kernel)))
  refine ⟨(l, D, cI, cQ, fun _ => 0), rfl, hD, fun k q hk => ?_⟩
  match k, hk with
  | 0, hk =>
    cases (show some (cI, FieldType.int) = some q from hk)
    exact ⟨fun n z => ⟨fun k h => (by cases h), kI, f2, oI2, f3⟩, f1⟩
  | 1, hk =>
    cases (show some (cQ, FieldType.object RX2) = some q from hk)
    exact ⟨fun n z => ⟨fun k h => (by cases h), kQ, g3, oQ, g4⟩, kQ, oQ, g3, g4, g1, g5⟩
  | k + 2, hk => exact absurd (show (none : Option (ClassId × FieldType)) = some q from hk) (by simp)
theorem l_text {b : Nat} {s : State} (hts0 : ∀ w ∈ lw_tbl, w.before #[Value.ref b] s = true) (hgv : (Jvm.Cond.and given_1 narrow_1).before #[Value.ref b] s = true) : ∃ q : Nat × Nat, f_St (fun x => s.heap.size ≤ x) q s s.heap := by
  have hs := flat_of_before _ hgv
  have hA : ∀ a : Nat, a < s.heap.size → ¬ (fun x => s.heap.size ≤ x) a := fun a h => Nat.not_le.mpr h
  have hex : (Cond.exactly (Term.string RX7 81) RJ0).before #[Value.ref b] s = true := hs _ (by decide +kernel)
  obtain ⟨a, _, _, _, ha, -⟩ := Cond.exactly_spec hex
  have hel : ∀ j : Nat, j < 63 → (Term.elem (Term.field (Term.string RX7 81) RJ0 "value" "[B") (.int (Int32.ofNat j))).eval #[Value.ref b] s none [] s = some (.int (at_by.getD j 0)) := by
    have hm : ∀ j : Nat, j < 63 → (Cond.eq (Term.elem (Term.field (Term.string RX7 81) RJ0 "value" "[B") (.int (Int32.ofNat j))) (.int (at_by.getD j 0))) ∈ flatC (Jvm.Cond.and given_1 narrow_1) := by decide +kernel
    exact fun j hj => l_eqi (hs _ (hm j hj))
  obtain ⟨t, ht, hT⟩ := va_Tof (N := 63) (f := fun j => .int (at_by.getD j 0)) (A := fun x => s.heap.size ≤ x) (by decide) (hs (Cond.arrayOf (Term.field (Term.string RX7 81) RJ0 "value" "[B") .byte) (by decide +kernel)) (l_eqi (x := 63) (hs _ (by decide +kernel))) hel hA
  refine ⟨(a, t), vk_R.of (hts0 (Cond.stringRef RX7 81 at_tx) (List.mem_of_getElem? (i := 275) (by decide +kernel))) ha, va_Oof hex ha hA, vk_OFof ha (l_eqi (hs _ (by decide +kernel))) hA, vk_OFof ha ht hA, hT, va_Zof (hts0 (Cond.laysStatic RJ0 "COMPACT_STRINGS" "Z") (List.mem_of_getElem? (i := 285) (by decide +kernel))) (hts0 (Cond.initialized RJ0) (List.mem_of_getElem? (i := 55) (by decide +kernel))) (l_eqi (hs _ (by decide +kernel))) hA, va_Zqof (hts0 (Cond.laysStatic RJ3 "SIOOBE_FORMATTER" "Ljava/util/function/BiFunction;") (List.mem_of_getElem? (i := 301) (by decide +kernel))) (hts0 (Cond.initialized RJ3) (List.mem_of_getElem? (i := 57) (by decide +kernel))) (hs _ (by decide +kernel)) hA⟩
set_option maxHeartbeats 4000000 in
theorem whole_start {p : Program} {e : Env} {s : State} {m : MethodId} {below : List Frame} {meth : Method} {c : Code} (l : Launch) (hflags : l.flags = flags0) {b L : Nat} {xs : Nat → Int32} (hL : L ≤ 256) (C0 : lw_At p s m meth c b L xs) : W p l e room_1 s m #[Value.ref b] below meth c s.heap [] 0 0 (lw_Z below #[Value.ref b] s) (entryFrame m ([Value.ref b] : List Value).toArray 4) := by
  obtain ⟨hx, hb, hr, hml, hown, hts0, hX, hbl, hlocks, hgv⟩ := id C0
  have hts : ∀ w ∈ tb, w.before #[Value.ref b] s = true := fun w hw => hts0 w (List.mem_filter.mp hw).1
  have hN : f_NW s := f_NW.of hts0
  have hO : va_AO RX2 s := va_AO.of (hts0 (Cond.arrayOver (.object RX2)) (List.mem_of_getElem? (i := 204) (by decide +kernel)))
  obtain ⟨q, hSt⟩ := l_text hts0 hgv
  obtain ⟨E, hE, hK⟩ := l_world l hts hts0
  subst hE
  have hA : ∀ q : Nat, s.heap.size ≤ q → (fun q : Nat => s.heap.size ≤ q) q := fun _ h => h
  have hP0 : va_P E.2.1 vwCl [] s.heap := fun k q h => by simp at h
  have hD0 : va_D (fun q : Nat => s.heap.size ≤ q) [] := ⟨fun i j p q h => by simp at h, fun k q h => by simp at h⟩
  rw [lg_entry_eq]
  have hl : f_ls ((lg_sl [Value.ref b] ++ List.replicate (4 - (lg_sl [Value.ref b]).length) Slot.unset).toArray) 4 [some (.ref b), none, none, none] := sc_ls (av := [Value.ref b]) (Nat.le_of_ble_eq_true rfl) rfl
  generalize (lg_sl ([.ref b]) ++ List.replicate (4 - (lg_sl ([.ref b])).length) Slot.unset).toArray = ls at hl ⊢
  obtain ⟨C7, T7, ty7, g1, g2, g3, g4, g5, g6, g7⟩ := nlL_7
  refine va_new hx hb hts g2 ty7 g3 hown (hts _ g5) (hts _ g6) (hts _ g7) hK hP0 hD0 va_S.rf hA g1 g4 (Nat.le_of_ble_eq_true rfl) (Nat.le_of_ble_eq_true rfl) dL_law_0 (fun q1 H1 hP1 hD1 hS1 => ?_)
  refine lv_dup hx hb dL_law_3 rfl ?_
  obtain ⟨lc, li, ln, lr, lk, lh⟩ := liL_9
  have lk1 : Cond.methodLink RL 9 yX7_init ∈ tb := tb_in (List.mem_of_getElem? (i := 64) (by decide +kernel)) rfl
  have hq1 : s.heap.size ≤ q1 := hD1.2 0 (q1, .inr (7, [.null, .null, .null, .null, .null, .null, .null, .null, .null, .null, .null, .null])) rfl
  have hAA : ∀ x, k_A q1 H1.size x → (fun q : Nat => s.heap.size ≤ q) x := fun x h => by
    rcases h with rfl | h
    · exact hq1
    · exact Nat.le_trans hS1.1 h
  have hSt1 : f_St (k_A q1 H1.size) q s H1 := (hSt.kept (fun a ha hB => hS1.2.1 a ha hB)).narrow hAA
  have hFB : FrameBlind (k_PcS E 7 [.null, .null, .null, .null, .null, .null, .null, .null, .null, .null, .null, .null] [] q1 H1.size q) := fun a U g mk z => by obtain ⟨z0, z1, z2, z3, z4, z5, z6⟩ := z; exact ⟨z0, z1, z2, va_K.moved (u := U) (U := U.calling g mk a) (Vm.Alike.refl U.vm) z3, f_NW.same (u := U) (U := U.calling g mk a) rfl z4, va_AO.moved (u := U) (U := U.calling g mk a) (Vm.Alike.refl U.vm) z5, f_St.same (u := U) (U := U.calling g mk a) rfl z6⟩
  have hpre : PreS s H1 (k_PcS E 7 [.null, .null, .null, .null, .null, .null, .null, .null, .null, .null, .null, .null] [] q1 H1.size q) [.ref q1] := ⟨hFB, fun U hU hW => ⟨rfl, by rw [hU], by rw [hU]; exact hP1, va_K.moved hW.alike hK, hN.warm hW, va_AO.moved hW.alike hO, by rw [hU]; exact f_St.warm hW hSt1⟩⟩
  refine kk_call (q0 := q1) (va_runI (rest := [.ref q1]) (As := []) ⟨hx, hb, hml, hown, hts⟩ (K_main (E := E) q q1 H1.size) ⟨l_payI (d := 12) (mc := 143) (ms := 1262) hts lc lh (by decide) (hts _ lk1), ln, hts _ li⟩ hpre rfl rfl hl.1.1 rfl (lv_room (Nat.le_of_ble_eq_true rfl)) dL_law_4 ⟨Nat.le_of_ble_eq_true rfl, Nat.le_of_ble_eq_true rfl⟩) hS1 hAA (fun w H2 locs2 hPo hPw hDw hS2 hkp => ?_)
  obtain ⟨ad1, m1, had1, rfl, hi1⟩ := hPo
  subst had1
  have hD2 : va_D (fun q : Nat => s.heap.size ≤ q) (f_wl (k_E E ad1) sC m1) := ⟨hDw.1, fun k x hx => hAA _ (hDw.2 k x hx)⟩
  refine lv_astore_n hx hb dL_law_7 rfl hl.1 (by decide) rfl (fun ls2 hl2 => ?_)
  have hl2 := f_ls_set (i := 1) hl.2 rfl hl2
  obtain ⟨C8, T8, ty8, g1, g2, g3, g4, g5, g6, g7⟩ := nlL_10
  refine va_new hx hb hts g2 ty8 g3 hown (hts _ g5) (hts _ g6) (hts _ g7) hK hPw hD2 hS2 hA g1 g4 (Nat.le_of_ble_eq_true rfl) (Nat.le_of_ble_eq_true rfl) dL_law_8 (fun q2 H3 hP3 hD3 hS3 => ?_)
  refine lv_dup hx hb dL_law_11 rfl ?_
  obtain ⟨lc, li, ln, lr, lk, lh⟩ := liL_12
  have lk2 : Cond.methodLink RL 12 yX8_init ∈ tb := tb_in (List.mem_of_getElem? (i := 810) (by decide +kernel)) rfl
  have hq2 : s.heap.size ≤ q2 := va_D.rightA hD3 0 (q2, .inr (8, [.null, .int 0, .int 0, .int 0, .null, .int 0, .null, .null, .int 0, .int 0, .null, .null, .int 0, .int 0, .int 0, .null, .int 0, .int 0, .null, .int 0, .null, .null, .null, .null, .null, .null, .null, .null, .int 0, .null, .null, .null, .int 0])) rfl
  have hAB : ∀ x, k_A q2 H3.size x → (fun q : Nat => s.heap.size ≤ q) x := fun x h => by
    rcases h with rfl | h
    · exact hq2
    · exact Nat.le_trans hS3.1 h
  have hFB2 : FrameBlind (k_Pc E 8 [.null, .int 0, .int 0, .int 0, .null, .int 0, .null, .null, .int 0, .int 0, .null, .null, .int 0, .int 0, .int 0, .null, .int 0, .int 0, .null, .int 0, .null, .null, .null, .null, .null, .null, .null, .null, .int 0, .null, .null, .null, .int 0] [] q2 H3.size) := fun a U g mk z => by obtain ⟨z0, z1, z2, z3, z4, z5⟩ := z; exact ⟨z0, z1, z2, va_K.moved (u := U) (U := U.calling g mk a) (Vm.Alike.refl U.vm) z3, f_NW.same (u := U) (U := U.calling g mk a) rfl z4, va_AO.moved (u := U) (U := U.calling g mk a) (Vm.Alike.refl U.vm) z5⟩
  have hpre2 : PreS s H3 (k_Pc E 8 [.null, .int 0, .int 0, .int 0, .null, .int 0, .null, .null, .int 0, .int 0, .null, .null, .int 0, .int 0, .int 0, .null, .int 0, .int 0, .null, .int 0, .null, .null, .null, .null, .null, .null, .null, .null, .int 0, .null, .null, .null, .int 0] [] q2 H3.size) [.ref q2] := ⟨hFB2, fun U hU hW => ⟨rfl, by rw [hU], by rw [hU]; exact hP3.right, va_K.moved hW.alike hK, hN.warm hW, va_AO.moved hW.alike hO⟩⟩
  refine kk_call (q0 := q2) (va_runI (rest := [.ref q2]) (As := []) ⟨hx, hb, hml, hown, hts⟩ (K_mod (E := E) q2 H3.size) ⟨l_payI (d := 1) (mc := 19) (ms := 1841) hts lc lh (by decide) (hts _ lk2), ln, hts _ li⟩ hpre2 rfl rfl hl2.1.1 rfl (lv_room (Nat.le_of_ble_eq_true rfl)) dL_law_12 ⟨Nat.le_of_ble_eq_true rfl, Nat.le_of_ble_eq_true rfl⟩) hS3 hAB (fun w H4 locs4 hPo hPw4 hDw4 hS4 hkp4 => ?_)
  obtain ⟨ad2, m2, had2, rfl, hi2⟩ := hPo
  subst had2
  obtain ⟨hPj, hDj⟩ := k_join (ws := f_wl (k_E E ad1) sC m1) (b := [(ad2 0, .inr (8, [.null, .int 0, .int 0, .int 0, .null, .int 0, .null, .null, .int 0, .int 0, .null, .null, .int 0, .int 0, .int 0, .null, .int 0, .int 0, .null, .int 0, .null, .null, .null, .null, .null, .null, .null, .null, .int 0, .null, .null, .null, .int 0]))]) (w := f_wl (k_E E ad2) sM m2) hP3 hD3 (A1 := k_A (ad2 0) H3.size) (fun x h => by
    rcases h with rfl | h
    · exact Or.inl ⟨0, _, rfl, rfl⟩
    · exact Or.inr h) hAB hkp4 hPw4 hDw4
  have hlen : (f_wl (k_E E ad1) sC m1).length = 144 := by
    unfold f_wl
    rw [List.length_map, List.length_range]
    rfl
  have hg1 : ∀ i, i < 144 → (f_wl (k_E E ad1) sC m1 ++ f_wl (k_E E ad2) sM m2)[i]? = some (ad1 i, f_cell (k_E E ad1) sC m1 i) := fun i hi => by
    rw [List.getElem?_append_left (by omega)]
    exact f_wl_at _ _ _ hi
  have hg2 : ∀ j, j < 20 → (f_wl (k_E E ad1) sC m1 ++ f_wl (k_E E ad2) sM m2)[144 + j]? = some (ad2 j, f_cell (k_E E ad2) sM m2 j) := fun j hj => by
    rw [List.getElem?_append_right (by omega), hlen, Nat.add_sub_cancel_left]
    exact f_wl_at _ _ _ hj
  refine lv_astore_n hx hb dL_law_15 rfl hl2.1 (by decide) rfl (fun ls3 hl3 => ?_)
  have hl3 := f_ls_set (i := 2) hl2.2 rfl hl3
  refine lv_iconst (v := iI ((0 : Nat) : Int)) hx hb dL_law_16 rfl ?_
  refine lv_istore_n hx hb dL_law_17 rfl hl3.1 (by decide) rfl (fun ls4 hl4 => ?_)
  have hl4 := f_ls_set (i := 3) hl3.2 rfl hl4
  exact L_loop (RulL_of (b := b) (L := L) (xs := xs) hx hb hml hown hts hN hK hX hbl hL (fun i j hi hj hij => hDj.1 i j _ _ (hg1 i hi) (hg1 j hj) hij) (fun i j hi hj hij => by
    have := hDj.1 _ _ _ _ (hg2 i hi) (hg2 j hj) hij
    omega) (fun k hk => hDj.2 _ _ (hg1 k hk)) (fun k hk => hDj.2 _ _ (hg2 k hk)) (fun i j hi hj hij => by
    have := hDj.1 _ _ _ _ (hg1 i hi) (hg2 j hj) hij
    omega) (Nat.le_of_ble_eq_true rfl) (Nat.le_of_ble_eq_true rfl) hr hlocks) hL 300 0 m1 m2 A0 rfl (by omega) A0_ok hi1 hi2 H4 locs4 ls4 hPj.left hPj.right hS4 hl4
