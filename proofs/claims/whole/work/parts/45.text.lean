def at_tx : String := "k1,0,62,3,2;k3,1,13,5,1;k6,2,3,8,1;k24,3,63,4,3;e0;e1;e2;e3;e1;"
def at_by : List Int32 := [107, 49, 44, 48, 44, 54, 50, 44, 51, 44, 50, 59, 107, 51, 44, 49, 44, 49, 51, 44, 53, 44, 49, 59, 107, 54, 44, 50, 44, 51, 44, 56, 44, 49, 59, 107, 50, 52, 44, 51, 44, 54, 51, 44, 52, 44, 51, 59, 101, 48, 59, 101, 49, 59, 101, 50, 59, 101, 51, 59, 101, 49, 59]
def at_nt : List Nat := [107, 49, 44, 48, 44, 54, 50, 44, 51, 44, 50, 59, 107, 51, 44, 49, 44, 49, 51, 44, 53, 44, 49, 59, 107, 54, 44, 50, 44, 51, 44, 56, 44, 49, 59, 107, 50, 52, 44, 51, 44, 54, 51, 44, 52, 44, 51, 59, 101, 48, 59, 101, 49, 59, 101, 50, 59, 101, 51, 59, 101, 49, 59]
theorem tb_sCS : Cond.fieldLink RJ0 38 RJ0 "COMPACT_STRINGS" "Z" ∈ tb := tb_in (List.mem_of_getElem? (i := 284) (by decide +kernel)) (by decide +kernel)
theorem tb_sSF : Cond.fieldLink RJ0 1053 RJ3 "SIOOBE_FORMATTER" "Ljava/util/function/BiFunction;" ∈ tb := tb_in (List.mem_of_getElem? (i := 300) (by decide +kernel)) (by decide +kernel)
theorem tb_sV : Cond.fieldLink RJ0 9 RJ0 "value" "[B" ∈ tb := tb_in (List.mem_of_getElem? (i := 1177) (by decide +kernel)) (by decide +kernel)
theorem tb_sC : Cond.fieldLink RJ0 15 RJ0 "coder" "B" ∈ tb := tb_in (List.mem_of_getElem? (i := 1178) (by decide +kernel)) (by decide +kernel)

theorem sc_ls {av : List Value} {nL : Nat} {L0 : f_L} (hn : (lg_sl av).length ≤ nL) (hL0 : f_L0 nL av = L0) : f_ls ((lg_sl av ++ List.replicate (nL - (lg_sl av).length) Slot.unset).toArray) nL L0 := by
  have hl := lv_entry av hn
  subst hL0
  refine ⟨⟨hl.1, hl.2.1, fun q hq => hl.2.2 q (f_L0_mem av 0 q _ hq)⟩, ?_⟩
  unfold f_L0
  rw [List.length_append, List.length_replicate, f_lg_len]
  omega
def f_St (B : Nat → Prop) (q : Nat × Nat) (U : State) (H : Heap) : Prop := vk_R RX7 81 at_tx q.1 U ∧ va_O RJ0 q.1 B U H ∧ va_OF RJ0 "coder" "B" (.int 0) q.1 B U H ∧ va_OF RJ0 "value" "[B" (.ref q.2) q.1 B U H ∧ va_T .byte q.2 63 (fun j => .int (at_by.getD j 0)) B U H ∧ va_Z RJ0 "COMPACT_STRINGS" "Z" (.int 1) B U H ∧ va_Zq RJ3 "SIOOBE_FORMATTER" "Ljava/util/function/BiFunction;" B U H
section FST
variable {B B2 : Nat → Prop} {q : Nat × Nat} {U u s : State} {H H1 : Heap}
theorem f_St.kept (h : f_St B q U H) (hq : ∀ a : Nat, a < H.size → ¬ B a → H1[a]? = H[a]?) : f_St B q U H1 := ⟨h.1, h.2.1.kept hq, h.2.2.1.kept hq, h.2.2.2.1.kept hq, h.2.2.2.2.1.kept hq, h.2.2.2.2.2.1.kept hq, h.2.2.2.2.2.2.kept hq⟩
theorem f_St.narrow (h : f_St B q U H) (hAB : ∀ x, B2 x → B x) : f_St B2 q U H := ⟨h.1, h.2.1.narrow hAB, h.2.2.1.narrow hAB, h.2.2.2.1.narrow hAB, h.2.2.2.2.1.narrow hAB, h.2.2.2.2.2.1.narrow hAB, h.2.2.2.2.2.2.narrow hAB⟩
theorem f_St.warm (hW : s.WarmedH U.vm) (h : f_St B q s H) : f_St B q U H := ⟨h.1.warm hW, va_O.moved hW.alike h.2.1, va_OF.moved hW.alike h.2.2.1, va_OF.moved hW.alike h.2.2.2.1, va_T.moved hW.alike h.2.2.2.2.1, va_Z.moved hW.alike h.2.2.2.2.2.1, va_Zq.moved hW.alike h.2.2.2.2.2.2⟩
theorem f_St.same (hv : U.vm = u.vm) (h : f_St B q u H) : f_St B q U H := ⟨h.1.same hv, va_O.moved (hv ▸ Vm.Alike.refl _) h.2.1, va_OF.moved (hv ▸ Vm.Alike.refl _) h.2.2.1, va_OF.moved (hv ▸ Vm.Alike.refl _) h.2.2.2.1, va_T.moved (hv ▸ Vm.Alike.refl _) h.2.2.2.2.1, va_Z.moved (hv ▸ Vm.Alike.refl _) h.2.2.2.2.2.1, va_Zq.moved (hv ▸ Vm.Alike.refl _) h.2.2.2.2.2.2⟩
end FST
def sc_Pc (q : Nat × Nat) (As : List Value) : Array Value → State → Prop := va_Pc As (fun U => f_St (fun _ => False) q U U.heap ∧ f_NW U)
def sc_Q (v : Option Value) : Array Value → State → Outcome → State → Prop := fun _ st o t => o = .returned v ∧ t.heap = st.heap
/-- a member of the text's, that only looks -/
def SM (l : Launch) (Y : f_Y) (d : Nat) (q : Nat × Nat) (As : List Value) (v : Option Value) : Prop := Met l Y.1 (Cond.code Y.1 Y.2.1 Y.2.2.1 Y.2.2.2 :: tb) (f_rm d) (sc_Pc q As) (sc_Q v) 0 0 (fun _ => False)
section SC
variable {p : Program} {l : Launch} {e : Env} {s : State} {m : MethodId} {args : Array Value} {below : List Frame} {meth : Method} {c : Code} {Q : State → Prop} {nL : Nat} {cc : ByteArray} {own : String} {D MC MS kk nn : Nat} {q : Nat × Nat}
theorem sc_after {R : Room} {H : Heap} {locs : List Loc} {cells slots pc : Nat} {ls : Array Slot} {rest st0 : List Value} {a : Array Value} {v : Option Value} (hr : va_Run p l e R s m args below meth c H locs cells slots 0 0 (F0 m pc ls st0) rest (sc_Q v a) (fun _ => False)) (k : W p l e R s m args below meth c H locs cells slots Q (F0 m (pc + 3) ls (v.toList ++ rest))) : W p l e R s m args below meth c H locs cells slots Q (F0 m pc ls st0) := by
  intro T hT X
  obtain ⟨v', st₀, t, T', L, h0, X', hL, e1, e2, ⟨hv, hh⟩, st⟩ := hr T hT X
  cases hv
  have hLn : L = [] := List.eq_nil_iff_forall_not_mem.mpr hL
  subst hLn
  rw [List.append_nil] at X'
  obtain ⟨t2, a1, b1⟩ := k T' (e1.trans (hh.trans h0)) X'
  exact ⟨t2, st t2 a1, b1⟩
theorem sc_FB {As : List Value} : FrameBlind (sc_Pc q As) := fun a U g mk z => by
  obtain ⟨z1, z2, z3⟩ := z
  exact ⟨z1, f_St.same (u := U) (U := U.calling g mk a) rfl z2, f_NW.same (u := U) (U := U.calling g mk a) rfl z3⟩
/-- a call upon the text itself -/
theorem sc_callV {pc : Nat} {ls : Array Slot} {H : Heap} {locs : List Loc} {rest As : List Value} {i d : Nat} {Y : f_Y} {v : Option Value} (hx : p.tables.exec = Jvm.exec) (hb : c.code = cc) (hml : c.maxLocals = nL) (hown : s.vm.findClass own = some m.cls) (hts : ∀ w ∈ tb, w.before args s = true) (hN : f_NW s) (hSt : f_St (fun _ => False) q s H) (hd : decode cc pc = .ok (.invokevirtual i, 3)) (h0 : f_LV own i Y As.length) (hcls : Y.1.cls = RJ0) (hM : SM l Y d q (.ref q.1 :: As) v) (hD : d + 1 ≤ D) (hr : (rest.map fun v => v.category).sum ≤ 8) (hls : ls.size = nL) (hkc : kk ≤ MC) (hns : nn ≤ MS)
    (k : W p l e (k_rm D MC MS) s m args below meth c H locs kk nn Q (F0 m (pc + 3) ls (v.toList ++ rest))) : W p l e (k_rm D MC MS) s m args below meth c H locs kk nn Q (F0 m pc ls (As.reverse ++ .ref q.1 :: rest)) := by
  obtain ⟨lc, li, ls9, lk, lh⟩ := h0
  have hrec : ∃ cell : Cell, H[q.1]? = some cell ∧ cell.vm.isStatics = false ∧ s.vm.findClass Y.1.cls = some cell.cls := by
    obtain ⟨cell, h1, h2, h3, -⟩ := hSt.2.1
    exact ⟨cell, h1, h2, by rw [hcls]; exact h3⟩
  have hroom : 2 * (F0 m pc ls (As.reverse ++ .ref q.1 :: rest)).monitorRoom + (rest.map fun v => v.category).sum ≤ 8 := lv_room hr
  have hpre : PreV s H Y.1.cls q.1 (sc_Pc q (.ref q.1 :: As)) As := ⟨sc_FB, hrec, fun U hU hW => ⟨rfl, by rw [hU]; exact hSt.warm hW, hN.warm hW⟩⟩
  rcases lk with lk | ⟨host, lk⟩
  · exact sc_after (va_runV (C := Y.1.cls) ⟨hx, hb, hml, hown, hts⟩ hM ⟨kc_pay hts lc lh hD (hts _ lk), hts _ li, hts _ ls9⟩ hpre rfl rfl hls rfl hroom hd ⟨hkc, hns⟩) k
  · exact sc_after (va_runVN (C := Y.1.cls) ⟨hx, hb, hml, hown, hts⟩ hM ⟨kc_payN hts lc lh hD (hN _ lk), hts _ li, hts _ ls9⟩ hpre rfl rfl hls rfl hroom hd ⟨hkc, hns⟩) k
theorem sc_callS {pc : Nat} {ls : Array Slot} {H : Heap} {locs : List Loc} {rest As : List Value} {i d : Nat} {Y : f_Y} {v : Option Value} (hx : p.tables.exec = Jvm.exec) (hb : c.code = cc) (hml : c.maxLocals = nL) (hown : s.vm.findClass own = some m.cls) (hts : ∀ w ∈ tb, w.before args s = true) (hN : f_NW s) (hSt : f_St (fun _ => False) q s H) (hd : decode cc pc = .ok (.invokestatic i, 3)) (h0 : f_LS own i Y As.length) (hM : SM l Y d q As v) (hD : d + 1 ≤ D) (hr : (rest.map fun v => v.category).sum ≤ 8) (hls : ls.size = nL) (hkc : kk ≤ MC) (hns : nn ≤ MS)
    (k : W p l e (k_rm D MC MS) s m args below meth c H locs kk nn Q (F0 m (pc + 3) ls (v.toList ++ rest))) : W p l e (k_rm D MC MS) s m args below meth c H locs kk nn Q (F0 m pc ls (As.reverse ++ rest)) := by
  obtain ⟨lc, li, lk, lh⟩ := h0
  have hroom : 2 * (F0 m pc ls (As.reverse ++ rest)).monitorRoom + (rest.map fun v => v.category).sum ≤ 8 := lv_room hr
  have hpre : PreS s H (sc_Pc q As) As := ⟨sc_FB, fun U hU hW => ⟨rfl, by rw [hU]; exact hSt.warm hW, hN.warm hW⟩⟩
  rcases lk with lk | ⟨host, lk⟩
  · exact sc_after (va_runS ⟨hx, hb, hml, hown, hts⟩ hM ⟨kc_pay hts lc lh hD (hts _ lk), hts _ li⟩ hpre rfl rfl hls rfl hroom hd ⟨hkc, hns⟩) k
  · exact sc_after (va_runSN ⟨hx, hb, hml, hown, hts⟩ hM ⟨kc_payN hts lc lh hD (hN _ lk), hts _ li, trivial⟩ hpre rfl rfl hls rfl hroom hd ⟨hkc, hns⟩) k
end SC

theorem SM_coder {l : Launch} {q : Nat × Nat} : SM l mJ0_coder_7d493 0 q [.ref q.1] (some (.int 0)) := by
  refine Met.ofW (cc := mJ0_coder_7d493.2.1) (maxL := mJ0_coder_7d493.2.2.1) (ret := mJ0_coder_7d493.2.2.2) rfl rfl ?_
  intro p e s m args below meth c s₁ B hml hv
  obtain ⟨rfl, hSt, hN⟩ := hv
  have hx := B.exec
  have hb := B.bytes
  have hr := B.returns
  have hts : ∀ w ∈ tb, w.before (List.toArray [.ref q.1]) s = true := fun w hw => atoms_spec (ws := Cond.code mJ0_coder_7d493.1 mJ0_coder_7d493.2.1 mJ0_coder_7d493.2.2.1 mJ0_coder_7d493.2.2.2 :: tb) B.pre w (List.mem_cons_of_mem _ hw)
  have hown : s.vm.findClass mJ0_coder_7d493.1.cls = some m.cls := findClass_of_methodNamed B.named
  have hlocks := B.notSynchronized
  rw [lg_entry_eq]
  have hl := sc_ls (av := [.ref q.1]) (nL := 1) (L0 := [some (.ref q.1)]) (Nat.le_of_ble_eq_true rfl) rfl
  have hls := hl.1.1
  generalize ((lg_sl [.ref q.1] ++ List.replicate (1 - (lg_sl [.ref q.1]).length) Slot.unset).toArray) = ls at hl hls ⊢
  show W p l e (k_rm 0 0 0) s m _ below meth c s.heap [] 0 0 _ (F0 m 0 ls [])
  refine va_gets hx hb (hSt.2.2.2.2.2.1) va_S.rf hown (hts _ tb_sCS) (fun _ h => h) dJ0_coder_7d493_0 ?_
  refine lv_if_eq hx hb dJ0_coder_7d493_3 (tgt := 13) (by decide) (fun z => absurd z (by decide)) (fun _ => ?_)
  refine lv_aload_n hx hb dJ0_coder_7d493_6 rfl (hl.at rfl) ?_
  refine vk_getf hx hb hSt.2.2.1 va_S.rf hown (hts _ tb_sC) (fun _ h => h) dJ0_coder_7d493_7 ?_
  refine lv_goto hx hb dJ0_coder_7d493_10 (tgt := 14) (by decide) ?_
  exact W.zret hx hb hr (by first | rfl | assumption | decide) (fun t ht hW => ⟨rfl, ht⟩) (fun z hz => by cases hz) dJ0_coder_7d493_14 hlocks
theorem SM_isLatin1 {l : Launch} {q : Nat × Nat} : SM l mJ0_isLatin1_aae02 0 q [.ref q.1] (some (.int 1)) := by
  refine Met.ofW (cc := mJ0_isLatin1_aae02.2.1) (maxL := mJ0_isLatin1_aae02.2.2.1) (ret := mJ0_isLatin1_aae02.2.2.2) rfl rfl ?_
  intro p e s m args below meth c s₁ B hml hv
  obtain ⟨rfl, hSt, hN⟩ := hv
  have hx := B.exec
  have hb := B.bytes
  have hr := B.returns
  have hts : ∀ w ∈ tb, w.before (List.toArray [.ref q.1]) s = true := fun w hw => atoms_spec (ws := Cond.code mJ0_isLatin1_aae02.1 mJ0_isLatin1_aae02.2.1 mJ0_isLatin1_aae02.2.2.1 mJ0_isLatin1_aae02.2.2.2 :: tb) B.pre w (List.mem_cons_of_mem _ hw)
  have hown : s.vm.findClass mJ0_isLatin1_aae02.1.cls = some m.cls := findClass_of_methodNamed B.named
  have hlocks := B.notSynchronized
  rw [lg_entry_eq]
  have hl := sc_ls (av := [.ref q.1]) (nL := 1) (L0 := [some (.ref q.1)]) (Nat.le_of_ble_eq_true rfl) rfl
  have hls := hl.1.1
  generalize ((lg_sl [.ref q.1] ++ List.replicate (1 - (lg_sl [.ref q.1]).length) Slot.unset).toArray) = ls at hl hls ⊢
  show W p l e (k_rm 0 0 0) s m _ below meth c s.heap [] 0 0 _ (F0 m 0 ls [])
  refine va_gets hx hb (hSt.2.2.2.2.2.1) va_S.rf hown (hts _ tb_sCS) (fun _ h => h) dJ0_isLatin1_aae02_0 ?_
  refine lv_if_eq hx hb dJ0_isLatin1_aae02_3 (tgt := 17) (by decide) (fun z => absurd z (by decide)) (fun _ => ?_)
  refine lv_aload_n hx hb dJ0_isLatin1_aae02_6 rfl (hl.at rfl) ?_
  refine vk_getf hx hb hSt.2.2.1 va_S.rf hown (hts _ tb_sC) (fun _ h => h) dJ0_isLatin1_aae02_7 ?_
  refine lv_if_ne hx hb dJ0_isLatin1_aae02_10 (tgt := 17) (by decide) (fun z => absurd rfl z) (fun _ => ?_)
  refine lv_iconst hx hb dJ0_isLatin1_aae02_13 rfl ?_
  refine lv_goto hx hb dJ0_isLatin1_aae02_14 (tgt := 18) (by decide) ?_
  exact W.zret hx hb hr (by first | rfl | assumption | decide) (fun t ht hW => ⟨rfl, ht⟩) (fun z hz => by cases hz) dJ0_isLatin1_aae02_18 hlocks
theorem SM_length {l : Launch} {q : Nat × Nat} : SM l mJ0_length_8abf5 1 q [.ref q.1] (some (.int 63)) := by
  refine Met.ofW (cc := mJ0_length_8abf5.2.1) (maxL := mJ0_length_8abf5.2.2.1) (ret := mJ0_length_8abf5.2.2.2) rfl rfl ?_
  intro p e s m args below meth c s₁ B hml hv
  obtain ⟨rfl, hSt, hN⟩ := hv
  have hx := B.exec
  have hb := B.bytes
  have hr := B.returns
  have hts : ∀ w ∈ tb, w.before (List.toArray [.ref q.1]) s = true := fun w hw => atoms_spec (ws := Cond.code mJ0_length_8abf5.1 mJ0_length_8abf5.2.1 mJ0_length_8abf5.2.2.1 mJ0_length_8abf5.2.2.2 :: tb) B.pre w (List.mem_cons_of_mem _ hw)
  have hown : s.vm.findClass mJ0_length_8abf5.1.cls = some m.cls := findClass_of_methodNamed B.named
  have hlocks := B.notSynchronized
  rw [lg_entry_eq]
  have hl := sc_ls (av := [.ref q.1]) (nL := 1) (L0 := [some (.ref q.1)]) (Nat.le_of_ble_eq_true rfl) rfl
  have hls := hl.1.1
  generalize ((lg_sl [.ref q.1] ++ List.replicate (1 - (lg_sl [.ref q.1]).length) Slot.unset).toArray) = ls at hl hls ⊢
  show W p l e (k_rm 1 0 0) s m _ below meth c s.heap [] 0 0 _ (F0 m 0 ls [])
  refine lv_aload_n hx hb dJ0_length_8abf5_0 rfl (hl.at rfl) ?_
  refine vk_getf hx hb hSt.2.2.2.1 va_S.rf hown (hts _ tb_sV) (fun _ h => h) dJ0_length_8abf5_1 ?_
  refine va_tlen hx hb hSt.2.2.2.2.1 va_S.rf (v := 63) rfl dJ0_length_8abf5_4 ?_
  refine lv_aload_n hx hb dJ0_length_8abf5_5 rfl (hl.at rfl) ?_
  refine sc_callV (As := []) hx hb hml hown hts hN hSt dJ0_length_8abf5_6 mlJ0_335 rfl SM_coder (by decide) (by decide) hls (Nat.le_refl _) (Nat.le_refl _) ?_
  refine lv_ishr hx hb dJ0_length_8abf5_9 ?_
  exact W.iret hx hb hr (fun t ht hW => ⟨rfl, ht⟩) (fun z hz => by cases hz) dJ0_length_8abf5_10 hlocks
theorem SM_ck3n {l : Launch} {q : Nat × Nat} {i n : Int32} (h0 : ¬ i < 0) (h1 : i < n) : SM l mJ3_checkIndex_8e157 0 q [.int i, .int n, .null] (some (.int i)) := by
  refine Met.ofW (cc := mJ3_checkIndex_8e157.2.1) (maxL := mJ3_checkIndex_8e157.2.2.1) (ret := mJ3_checkIndex_8e157.2.2.2) rfl rfl ?_
  intro p e s m args below meth c s₁ B hml hv
  obtain ⟨rfl, hSt, hN⟩ := hv
  have hx := B.exec
  have hb := B.bytes
  have hr := B.returns
  have hts : ∀ w ∈ tb, w.before (List.toArray [.int i, .int n, .null]) s = true := fun w hw => atoms_spec (ws := Cond.code mJ3_checkIndex_8e157.1 mJ3_checkIndex_8e157.2.1 mJ3_checkIndex_8e157.2.2.1 mJ3_checkIndex_8e157.2.2.2 :: tb) B.pre w (List.mem_cons_of_mem _ hw)
  have hown : s.vm.findClass mJ3_checkIndex_8e157.1.cls = some m.cls := findClass_of_methodNamed B.named
  have hlocks := B.notSynchronized
  rw [lg_entry_eq]
  have hl := sc_ls (av := [.int i, .int n, .null]) (nL := 3) (L0 := [some (.int i), some (.int n), some (.null)]) (Nat.le_of_ble_eq_true rfl) rfl
  have hls := hl.1.1
  generalize ((lg_sl [.int i, .int n, .null] ++ List.replicate (3 - (lg_sl [.int i, .int n, .null]).length) Slot.unset).toArray) = ls at hl hls ⊢
  show W p l e (k_rm 0 0 0) s m _ below meth c s.heap [] 0 0 _ (F0 m 0 ls [])
  refine lv_iload_n hx hb dJ3_checkIndex_8e157_0 rfl (hl.at rfl) ?_
  refine lv_if_lt hx hb dJ3_checkIndex_8e157_1 (tgt := 9) (by decide) (fun z => absurd z h0) (fun _ => ?_)
  refine lv_iload_n hx hb dJ3_checkIndex_8e157_4 rfl (hl.at rfl) ?_
  refine lv_iload_n hx hb dJ3_checkIndex_8e157_5 rfl (hl.at rfl) ?_
  refine lv_icmp_lt hx hb dJ3_checkIndex_8e157_6 (tgt := 16) (by decide) (fun _ => ?_) (fun z => absurd h1 z)
  refine lv_iload_n hx hb dJ3_checkIndex_8e157_16 rfl (hl.at rfl) ?_
  exact W.iret hx hb hr (fun t ht hW => ⟨rfl, ht⟩) (fun z hz => by cases hz) dJ3_checkIndex_8e157_17 hlocks
theorem SM_ck3r {l : Launch} {q : Nat × Nat} {i n : Int32} {a : Nat} (h0 : ¬ i < 0) (h1 : i < n) : SM l mJ3_checkIndex_8e157 0 q [.int i, .int n, .ref a] (some (.int i)) := by
  refine Met.ofW (cc := mJ3_checkIndex_8e157.2.1) (maxL := mJ3_checkIndex_8e157.2.2.1) (ret := mJ3_checkIndex_8e157.2.2.2) rfl rfl ?_
  intro p e s m args below meth c s₁ B hml hv
  obtain ⟨rfl, hSt, hN⟩ := hv
  have hx := B.exec
  have hb := B.bytes
  have hr := B.returns
  have hts : ∀ w ∈ tb, w.before (List.toArray [.int i, .int n, .ref a]) s = true := fun w hw => atoms_spec (ws := Cond.code mJ3_checkIndex_8e157.1 mJ3_checkIndex_8e157.2.1 mJ3_checkIndex_8e157.2.2.1 mJ3_checkIndex_8e157.2.2.2 :: tb) B.pre w (List.mem_cons_of_mem _ hw)
  have hown : s.vm.findClass mJ3_checkIndex_8e157.1.cls = some m.cls := findClass_of_methodNamed B.named
  have hlocks := B.notSynchronized
  rw [lg_entry_eq]
  have hl := sc_ls (av := [.int i, .int n, .ref a]) (nL := 3) (L0 := [some (.int i), some (.int n), some (.ref a)]) (Nat.le_of_ble_eq_true rfl) rfl
  have hls := hl.1.1
  generalize ((lg_sl [.int i, .int n, .ref a] ++ List.replicate (3 - (lg_sl [.int i, .int n, .ref a]).length) Slot.unset).toArray) = ls at hl hls ⊢
  show W p l e (k_rm 0 0 0) s m _ below meth c s.heap [] 0 0 _ (F0 m 0 ls [])
  refine lv_iload_n hx hb dJ3_checkIndex_8e157_0 rfl (hl.at rfl) ?_
  refine lv_if_lt hx hb dJ3_checkIndex_8e157_1 (tgt := 9) (by decide) (fun z => absurd z h0) (fun _ => ?_)
  refine lv_iload_n hx hb dJ3_checkIndex_8e157_4 rfl (hl.at rfl) ?_
  refine lv_iload_n hx hb dJ3_checkIndex_8e157_5 rfl (hl.at rfl) ?_
  refine lv_icmp_lt hx hb dJ3_checkIndex_8e157_6 (tgt := 16) (by decide) (fun _ => ?_) (fun z => absurd h1 z)
  refine lv_iload_n hx hb dJ3_checkIndex_8e157_16 rfl (hl.at rfl) ?_
  exact W.iret hx hb hr (fun t ht hW => ⟨rfl, ht⟩) (fun z hz => by cases hz) dJ3_checkIndex_8e157_17 hlocks
theorem SM_ck0 {l : Launch} {q : Nat × Nat} {i n : Int32} (h0 : ¬ i < 0) (h1 : i < n) : SM l mJ0_checkIndex_df160 1 q [.int i, .int n] none := by
  refine Met.ofW (cc := mJ0_checkIndex_df160.2.1) (maxL := mJ0_checkIndex_df160.2.2.1) (ret := mJ0_checkIndex_df160.2.2.2) rfl rfl ?_
  intro p e s m args below meth c s₁ B hml hv
  obtain ⟨rfl, hSt, hN⟩ := hv
  have hx := B.exec
  have hb := B.bytes
  have hr := B.returns
  have hts : ∀ w ∈ tb, w.before (List.toArray [.int i, .int n]) s = true := fun w hw => atoms_spec (ws := Cond.code mJ0_checkIndex_df160.1 mJ0_checkIndex_df160.2.1 mJ0_checkIndex_df160.2.2.1 mJ0_checkIndex_df160.2.2.2 :: tb) B.pre w (List.mem_cons_of_mem _ hw)
  have hown : s.vm.findClass mJ0_checkIndex_df160.1.cls = some m.cls := findClass_of_methodNamed B.named
  have hlocks := B.notSynchronized
  rw [lg_entry_eq]
  have hl := sc_ls (av := [.int i, .int n]) (nL := 2) (L0 := [some (.int i), some (.int n)]) (Nat.le_of_ble_eq_true rfl) rfl
  have hls := hl.1.1
  generalize ((lg_sl [.int i, .int n] ++ List.replicate (2 - (lg_sl [.int i, .int n]).length) Slot.unset).toArray) = ls at hl hls ⊢
  show W p l e (k_rm 1 0 0) s m _ below meth c s.heap [] 0 0 _ (F0 m 0 ls [])
  refine lv_iload_n hx hb dJ0_checkIndex_df160_0 rfl (hl.at rfl) ?_
  refine lv_iload_n hx hb dJ0_checkIndex_df160_1 rfl (hl.at rfl) ?_
  rcases hSt.2.2.2.2.2.2 with hZ | ⟨t, hZ⟩
  · refine va_gets hx hb hZ va_S.rf hown (hts _ tb_sSF) (fun _ h => h) dJ0_checkIndex_df160_2 ?_
    exact sc_callS (As := [.int i, .int n, .null]) hx hb hml hown hts hN hSt dJ0_checkIndex_df160_5 mlJ0_1059 (SM_ck3n h0 h1) (by decide) (by decide) hls (Nat.le_refl _) (Nat.le_refl _) (lv_pop hx hb dJ0_checkIndex_df160_8 rfl (W.vret hx hb hr (fun t ht hW => ⟨rfl, ht⟩) (fun z hz => by cases hz) dJ0_checkIndex_df160_9 hlocks))
  · refine va_gets hx hb hZ va_S.rf hown (hts _ tb_sSF) (fun _ h => h) dJ0_checkIndex_df160_2 ?_
    exact sc_callS (As := [.int i, .int n, .ref t]) hx hb hml hown hts hN hSt dJ0_checkIndex_df160_5 mlJ0_1059 (SM_ck3r h0 h1) (by decide) (by decide) hls (Nat.le_refl _) (Nat.le_refl _) (lv_pop hx hb dJ0_checkIndex_df160_8 rfl (W.vret hx hb hr (fun t ht hW => ⟨rfl, ht⟩) (fun z hz => by cases hz) dJ0_checkIndex_df160_9 hlocks))
theorem SM_ch1 {l : Launch} {q : Nat × Nat} {i v : Int32} (h0 : ¬ i < 0) (h1 : i < 63) (h2 : vp_in i 63) (hv : ((at_by.getD i.toNatClampNeg 0 &&& 255).toUInt32 % 65536).toInt32 = v) (hn : narrow .char (.int v) = .int v) : SM l mJ1_charAt_3b067 2 q [.ref q.2, .int i] (some (.int v)) := by
  refine Met.ofW (cc := mJ1_charAt_3b067.2.1) (maxL := mJ1_charAt_3b067.2.2.1) (ret := mJ1_charAt_3b067.2.2.2) rfl rfl ?_
  intro p e s m args below meth c s₁ B hml hv
  obtain ⟨rfl, hSt, hN⟩ := hv
  have hx := B.exec
  have hb := B.bytes
  have hr := B.returns
  have hts : ∀ w ∈ tb, w.before (List.toArray [.ref q.2, .int i]) s = true := fun w hw => atoms_spec (ws := Cond.code mJ1_charAt_3b067.1 mJ1_charAt_3b067.2.1 mJ1_charAt_3b067.2.2.1 mJ1_charAt_3b067.2.2.2 :: tb) B.pre w (List.mem_cons_of_mem _ hw)
  have hown : s.vm.findClass mJ1_charAt_3b067.1.cls = some m.cls := findClass_of_methodNamed B.named
  have hlocks := B.notSynchronized
  rw [lg_entry_eq]
  have hl := sc_ls (av := [.ref q.2, .int i]) (nL := 2) (L0 := [some (.ref q.2), some (.int i)]) (Nat.le_of_ble_eq_true rfl) rfl
  have hls := hl.1.1
  generalize ((lg_sl [.ref q.2, .int i] ++ List.replicate (2 - (lg_sl [.ref q.2, .int i]).length) Slot.unset).toArray) = ls at hl hls ⊢
  show W p l e (k_rm 2 0 0) s m _ below meth c s.heap [] 0 0 _ (F0 m 0 ls [])
  refine lv_iload_n hx hb dJ1_charAt_3b067_0 rfl (hl.at rfl) ?_
  refine lv_aload_n hx hb dJ1_charAt_3b067_1 rfl (hl.at rfl) ?_
  refine va_tlen hx hb hSt.2.2.2.2.1 va_S.rf (v := 63) rfl dJ1_charAt_3b067_2 ?_
  refine sc_callS (As := [.int i, .int 63]) hx hb hml hown hts hN hSt dJ1_charAt_3b067_3 mlJ1_9 (SM_ck0 h0 h1) (by decide) (by decide) hls (Nat.le_refl _) (Nat.le_refl _) ?_
  refine lv_aload_n hx hb dJ1_charAt_3b067_6 rfl (hl.at rfl) ?_
  refine lv_iload_n hx hb dJ1_charAt_3b067_7 rfl (hl.at rfl) ?_
  refine va_tb hx hb hSt.2.2.2.2.1 va_S.rf h2 rfl dJ1_charAt_3b067_8 ?_
  refine lv_sipush hx hb dJ1_charAt_3b067_9 (v := 255) rfl ?_
  refine lv_iand hx hb dJ1_charAt_3b067_12 ?_
  refine lv_i2c hx hb dJ1_charAt_3b067_13 hv ?_
  exact W.zret hx hb hr (by first | rfl | assumption | decide) (fun t ht hW => ⟨rfl, ht⟩) (fun z hz => by cases hz) dJ1_charAt_3b067_14 hlocks
theorem SM_charAt {l : Launch} {q : Nat × Nat} {i v : Int32} (h0 : ¬ i < 0) (h1 : i < 63) (h2 : vp_in i 63) (hv : ((at_by.getD i.toNatClampNeg 0 &&& 255).toUInt32 % 65536).toInt32 = v) (hn : narrow .char (.int v) = .int v) : SM l mJ0_charAt_5068e 3 q [.ref q.1, .int i] (some (.int v)) := by
  refine Met.ofW (cc := mJ0_charAt_5068e.2.1) (maxL := mJ0_charAt_5068e.2.2.1) (ret := mJ0_charAt_5068e.2.2.2) rfl rfl ?_
  intro p e s m args below meth c s₁ B hml hv
  obtain ⟨rfl, hSt, hN⟩ := hv
  have hx := B.exec
  have hb := B.bytes
  have hr := B.returns
  have hts : ∀ w ∈ tb, w.before (List.toArray [.ref q.1, .int i]) s = true := fun w hw => atoms_spec (ws := Cond.code mJ0_charAt_5068e.1 mJ0_charAt_5068e.2.1 mJ0_charAt_5068e.2.2.1 mJ0_charAt_5068e.2.2.2 :: tb) B.pre w (List.mem_cons_of_mem _ hw)
  have hown : s.vm.findClass mJ0_charAt_5068e.1.cls = some m.cls := findClass_of_methodNamed B.named
  have hlocks := B.notSynchronized
  rw [lg_entry_eq]
  have hl := sc_ls (av := [.ref q.1, .int i]) (nL := 2) (L0 := [some (.ref q.1), some (.int i)]) (Nat.le_of_ble_eq_true rfl) rfl
  have hls := hl.1.1
  generalize ((lg_sl [.ref q.1, .int i] ++ List.replicate (2 - (lg_sl [.ref q.1, .int i]).length) Slot.unset).toArray) = ls at hl hls ⊢
  show W p l e (k_rm 3 0 0) s m _ below meth c s.heap [] 0 0 _ (F0 m 0 ls [])
  refine lv_aload_n hx hb dJ0_charAt_5068e_0 rfl (hl.at rfl) ?_
  refine sc_callV (As := []) hx hb hml hown hts hN hSt dJ0_charAt_5068e_1 mlJ0_492 rfl SM_isLatin1 (by decide) (by decide) hls (Nat.le_refl _) (Nat.le_refl _) ?_
  refine lv_if_eq hx hb dJ0_charAt_5068e_4 (tgt := 16) (by decide) (fun z => absurd z (by decide)) (fun _ => ?_)
  refine lv_aload_n hx hb dJ0_charAt_5068e_7 rfl (hl.at rfl) ?_
  refine vk_getf hx hb hSt.2.2.2.1 va_S.rf hown (hts _ tb_sV) (fun _ h => h) dJ0_charAt_5068e_8 ?_
  refine lv_iload_n hx hb dJ0_charAt_5068e_11 rfl (hl.at rfl) ?_
  refine sc_callS (As := [.ref q.2, .int i]) hx hb hml hown hts hN hSt dJ0_charAt_5068e_12 mlJ0_495 (SM_ch1 h0 h1 h2 hv hn) (by decide) (by decide) hls (Nat.le_refl _) (Nat.le_refl _) ?_
  exact W.zret hx hb hr (by first | rfl | assumption | decide) (fun t ht hW => ⟨rfl, ht⟩) (fun z hz => by cases hz) dJ0_charAt_5068e_15 hlocks

def RulS (cc : ByteArray) (own : String) (D : Nat) (G : f_G) : Prop :=
  (∀ (pc : Nat) (L : f_L) (rest : List Value) (σ : f_Mem) (j : Nat), decode cc pc = .ok (.ldc 81, 2) → decode cc (pc + 2) = .ok (.invokevirtual j, 3) → f_LV own j mJ0_length_8abf5 0 → 2 ≤ D → (rest.map fun v => v.category).sum ≤ 8 → G (pc + 5) L (.int 63 :: rest) σ → G pc L rest σ) ∧
  (∀ (pc : Nat) (L : f_L) (rest : List Value) (σ : f_Mem) (j : Nat) (i v : Int32), decode cc pc = .ok (.ldc 81, 2) → decode cc (pc + 2) = .ok (.iload_n 2, 1) → L[2]? = some (some (.int i)) → decode cc (pc + 3) = .ok (.invokevirtual j, 3) → f_LV own j mJ0_charAt_5068e 1 → 4 ≤ D → (rest.map fun v => v.category).sum ≤ 8 → ¬ i < 0 → i < 63 → vp_in i 63 → ((at_by.getD i.toNatClampNeg 0 &&& 255).toUInt32 % 65536).toInt32 = v → narrow .char (.int v) = .int v → G (pc + 6) L (.int v :: rest) σ → G pc L rest σ)
theorem RulS_of {p : Program} {e : Env} {s : State} {m : MethodId} {args : Array Value} {below : List Frame} {meth : Method} {c : Code} {Q : State → Prop} {A : Nat → Prop} {E : f_E} {S : f_S} {nL : Nat} {cc : ByteArray} {D MC MS kk nn : Nat} {q : Nat × Nat} (hx : p.tables.exec = Jvm.exec) (hb : c.code = cc) (hml : c.maxLocals = nL) (hown : s.vm.findClass RX7 = some m.cls) (hts : ∀ w ∈ tb, w.before args s = true) (hN : f_NW s) (hSt : f_St A q s s.heap) (hkc : kk ≤ MC) (hns : nn ≤ MS) : RulS cc RX7 D (f_GC p e D MC MS kk nn s m args below meth c Q A E S nL) := by
  refine ⟨?_, ?_⟩
  · intro pc L rest σ j h0 h1 h2 h3 h4 kk0 H locs ls hP hS hl
    have hSt2 : f_St (fun _ => False) q s H := (hSt.kept (fun a h1 h2 => hS.2.1 a h1 h2)).narrow (fun x h => h.elim)
    refine va_ldcS hx hb hown hSt.1 h0 ?_
    exact sc_callV (As := []) hx hb hml hown hts hN hSt2 h1 h2 rfl SM_length h3 h4 hl.1.1 hkc hns (kk0 H locs ls hP hS hl)
  · intro pc L rest σ j i v h0 h1 h2 h3 h4 h5 h6 h7 h8 h9 h10 h11 kk0 H locs ls hP hS hl
    have hSt2 : f_St (fun _ => False) q s H := (hSt.kept (fun a h1 h2 => hS.2.1 a h1 h2)).narrow (fun x h => h.elim)
    refine va_ldcS hx hb hown hSt.1 h0 ?_
    refine lv_iload_n hx hb h1 rfl (hl.at h2) ?_
    exact sc_callV (As := [.int i]) hx hb hml hown hts hN hSt2 h3 h4 rfl (SM_charAt h7 h8 h9 h10 h11) h5 h6 hl.1.1 hkc hns (kk0 H locs ls hP hS hl)

