theorem CM.intro {E : f_E} {Y : f_Y} {d mc ms ci : Nat} {fs0 As : List Value} {Po : Nat → va_W → Prop} (hy : plainName Y.1.cls = true) (hnm : Y.1.name = "<init>") (hret : Y.2.2.2 = none) (hn : ∀ h0, (lg_sl (.ref h0 :: As)).length ≤ Y.2.2.1) {L0 : Nat → f_L} (hL0 : ∀ h0, f_L0 Y.2.2.1 (.ref h0 :: As) = L0 h0)
    (h : ∀ (h0 : Nat) (G : k_G), RulK Y.2.1 Y.1.cls d mc ms E ci h0 Po G → G 0 (L0 h0) [] (fs0, [], 0, 0)) : CM E Y d mc ms ci fs0 As Po := by
  intro h0 sz
  refine Met.ofW (cc := Y.2.1) (maxL := Y.2.2.1) (ret := Y.2.2.2) hy rfl ?_
  intro p e s m args below meth c s₁ B hml hv
  obtain ⟨rfl, rfl, hP, hK, hN, hO⟩ := hv
  have hx := B.exec
  have hb := B.bytes
  have hr := B.returns
  have hts0 := atoms_spec (ws := Cond.code Y.1 Y.2.1 Y.2.2.1 Y.2.2.2 :: tb) B.pre
  have hts : ∀ w ∈ tb, w.before (Value.ref h0 :: As).toArray s = true := fun w hw => hts0 w (List.mem_cons_of_mem _ hw)
  have hown : s.vm.findClass Y.1.cls = some m.cls := findClass_of_methodNamed B.named
  have hmn : meth.name = "<init>" := (name_of_methodNamed B.named B.method).1.trans hnm
  have hlocks := B.notSynchronized
  have hA2 : ∀ q, s.heap.size ≤ q → k_A h0 s.heap.size q := fun q hq => Or.inr hq
  rw [lg_entry_eq]
  have hls := sc_ls (hn h0) (hL0 h0)
  have hD : va_D (k_A h0 s.heap.size) [(h0, .inr (ci, fs0))] := by
    refine ⟨fun i j x y hi hj _ => ?_, fun k q hk => ?_⟩
    · have h1 := (List.getElem?_eq_some_iff.mp hi).1
      have h2 := (List.getElem?_eq_some_iff.mp hj).1
      simp only [List.length_cons, List.length_nil] at h1 h2
      omega
    · have h1 := (List.getElem?_eq_some_iff.mp hk).1
      simp only [List.length_cons, List.length_nil] at h1
      rw [show k = 0 by omega] at hk
      cases hk
      exact Or.inl rfl
  refine h h0 (k_GG p e d mc ms s m (Value.ref h0 :: As).toArray below meth c (MQ below (k_Q E h0 Po (k_A h0 s.heap.size)) (Value.ref h0 :: As).toArray s mc ms (k_A h0 s.heap.size)) (k_A h0 s.heap.size) E ci h0 Y.2.2.1) ?_ s.heap [] _ hP hD va_S.rf hls (Nat.zero_le _) (Nat.zero_le _)
  · refine ⟨t_kiconst hx hb hml hown hts hN hK hO hmn hA2, t_kbipush hx hb hml hown hts hN hK hO hmn hA2, t_ksipush hx hb hml hown hts hN hK hO hmn hA2, t_knull hx hb hml hown hts hN hK hO hmn hA2, t_kdup hx hb hml hown hts hN hK hO hmn hA2, t_kgoto hx hb hml hown hts hN hK hO hmn hA2, t_kicmp_ge hx hb hml hown hts hN hK hO hmn hA2, t_kicmp_gt hx hb hml hown hts hN hK hO hmn hA2, t_kiload_n hx hb hml hown hts hN hK hO hmn hA2, t_kaload_n hx hb hml hown hts hN hK hO hmn hA2, t_kaloadN_n hx hb hml hown hts hN hK hO hmn hA2, t_kistore_n hx hb hml hown hts hN hK hO hmn hA2, t_kastore_n hx hb hml hown hts hN hK hO hmn hA2, t_kastoreN_n hx hb hml hown hts hN hK hO hmn hA2, t_kiinc hx hb hml hown hts hN hK hO hmn hA2, t_koinit hx hb hml hown hts hN hK hO hmn hA2, t_knew hx hb hml hown hts hN hK hO hmn hA2, t_knewa hx hb hml hown hts hN hK hO hmn hA2, t_knewq hx hb hml hown hts hN hK hO hmn hA2, t_kputf hx hb hml hown hts hN hK hO hmn hA2, t_kgetf hx hb hml hown hts hN hK hO hmn hA2, t_kmax hx hb hml hown hts hN hK hO hmn hA2, t_kinit hx hb hml hown hts hN hK hO hmn hA2, t_kalen hx hb hml hown hts hN hK hO hmn hA2, t_kastq hx hb hml hown hts hN hK hO hmn hA2, t_kfm hx hb hml hown hts hN hK hO hmn hA2, ?_, t_kconv hx hb hml hown hts hN hK hO hmn hA2⟩
    intro pc L fs R k n hd hk hn2 hPo H locs ls hP1 hD1 hS hl _ _
    subst hk hn2
    exact W.vret hx hb (hr.trans hret) (fun t ht hW => ⟨⟨_, rfl, hPo, by rw [ht]; exact hP1, hD1, va_K.moved hW.alike hK⟩, hS.F ht⟩) hS.2.2 hd hlocks
theorem CM.introM {E : f_E} {Y : f_Y} {d mc ms ci : Nat} {fs0 As : List Value} {Po : Nat → va_W → Prop} (hy : plainName Y.1.cls = true) (hnm : Y.1.name = "<init>") (hret : Y.2.2.2 = none) (hn : ∀ h0, (lg_sl (.ref h0 :: As)).length ≤ Y.2.2.1) {L0 : Nat → f_L} (hL0 : ∀ h0, f_L0 Y.2.2.1 (.ref h0 :: As) = L0 h0)
    (h : ∀ (h0 : Nat) (G : k_G), RulK Y.2.1 Y.1.cls d mc ms E ci h0 Po G → kr_tail (fun _ => True) Y.2.1 Y.1.cls d mc ms E ci h0 Po G → G 0 (L0 h0) [] (fs0, [], 0, 0)) : CM E Y d mc ms ci fs0 As Po := by
  intro h0 sz
  refine Met.ofW (cc := Y.2.1) (maxL := Y.2.2.1) (ret := Y.2.2.2) hy rfl ?_
  intro p e s m args below meth c s₁ B hml hv
  obtain ⟨rfl, rfl, hP, hK, hN, hO⟩ := hv
  have hx := B.exec
  have hb := B.bytes
  have hr := B.returns
  have hts0 := atoms_spec (ws := Cond.code Y.1 Y.2.1 Y.2.2.1 Y.2.2.2 :: tb) B.pre
  have hts : ∀ w ∈ tb, w.before (Value.ref h0 :: As).toArray s = true := fun w hw => hts0 w (List.mem_cons_of_mem _ hw)
  have hown : s.vm.findClass Y.1.cls = some m.cls := findClass_of_methodNamed B.named
  have hmn : meth.name = "<init>" := (name_of_methodNamed B.named B.method).1.trans hnm
  have hlocks := B.notSynchronized
  have hA2 : ∀ q, s.heap.size ≤ q → k_A h0 s.heap.size q := fun q hq => Or.inr hq
  rw [lg_entry_eq]
  have hls := sc_ls (hn h0) (hL0 h0)
  have hD : va_D (k_A h0 s.heap.size) [(h0, .inr (ci, fs0))] := by
    refine ⟨fun i j x y hi hj _ => ?_, fun k q hk => ?_⟩
    · have h1 := (List.getElem?_eq_some_iff.mp hi).1
      have h2 := (List.getElem?_eq_some_iff.mp hj).1
      simp only [List.length_cons, List.length_nil] at h1 h2
      omega
    · have h1 := (List.getElem?_eq_some_iff.mp hk).1
      simp only [List.length_cons, List.length_nil] at h1
      rw [show k = 0 by omega] at hk
      cases hk
      exact Or.inl rfl
  refine h h0 (k_GG p e d mc ms s m (Value.ref h0 :: As).toArray below meth c (MQ below (k_Q E h0 Po (k_A h0 s.heap.size)) (Value.ref h0 :: As).toArray s mc ms (k_A h0 s.heap.size)) (k_A h0 s.heap.size) E ci h0 Y.2.2.1) ?_ ?_ s.heap [] _ hP hD va_S.rf hls (Nat.zero_le _) (Nat.zero_le _)
  · refine ⟨t_kiconst hx hb hml hown hts hN hK hO hmn hA2, t_kbipush hx hb hml hown hts hN hK hO hmn hA2, t_ksipush hx hb hml hown hts hN hK hO hmn hA2, t_knull hx hb hml hown hts hN hK hO hmn hA2, t_kdup hx hb hml hown hts hN hK hO hmn hA2, t_kgoto hx hb hml hown hts hN hK hO hmn hA2, t_kicmp_ge hx hb hml hown hts hN hK hO hmn hA2, t_kicmp_gt hx hb hml hown hts hN hK hO hmn hA2, t_kiload_n hx hb hml hown hts hN hK hO hmn hA2, t_kaload_n hx hb hml hown hts hN hK hO hmn hA2, t_kaloadN_n hx hb hml hown hts hN hK hO hmn hA2, t_kistore_n hx hb hml hown hts hN hK hO hmn hA2, t_kastore_n hx hb hml hown hts hN hK hO hmn hA2, t_kastoreN_n hx hb hml hown hts hN hK hO hmn hA2, t_kiinc hx hb hml hown hts hN hK hO hmn hA2, t_koinit hx hb hml hown hts hN hK hO hmn hA2, t_knew hx hb hml hown hts hN hK hO hmn hA2, t_knewa hx hb hml hown hts hN hK hO hmn hA2, t_knewq hx hb hml hown hts hN hK hO hmn hA2, t_kputf hx hb hml hown hts hN hK hO hmn hA2, t_kgetf hx hb hml hown hts hN hK hO hmn hA2, t_kmax hx hb hml hown hts hN hK hO hmn hA2, t_kinit hx hb hml hown hts hN hK hO hmn hA2, t_kalen hx hb hml hown hts hN hK hO hmn hA2, t_kastq hx hb hml hown hts hN hK hO hmn hA2, t_kfm hx hb hml hown hts hN hK hO hmn hA2, ?_, t_kconv hx hb hml hown hts hN hK hO hmn hA2⟩
    intro pc L fs R k n hd hk hn2 hPo H locs ls hP1 hD1 hS hl _ _
    subst hk hn2
    exact W.vret hx hb (hr.trans hret) (fun t ht hW => ⟨⟨_, rfl, hPo, by rw [ht]; exact hP1, hD1, va_K.moved hW.alike hK⟩, hS.F ht⟩) hS.2.2 hd hlocks
  · intro pc L fs R k n ad S σ post hk hn2 hcv hG hpo H locs ls hP1 hD1 hS hl hkc hns
    subst hk hn2
    obtain ⟨hP2, hI2, hA3⟩ := hcv H _ hP1 hD1
    refine hG (f_GC p e d k n k n s m (Value.ref h0 :: As).toArray below meth c (MQ below (k_Q E h0 Po (k_A h0 s.heap.size)) (Value.ref h0 :: As).toArray s k n (k_A h0 s.heap.size)) (k_A h0 s.heap.size) (k_E E ad) S Y.2.2.1) ?_ trivial H locs ls hP2 hS hl
    refine Rul_of (E := k_E E ad) hx hb hml hown hts hN hK hI2 hA3 hA2 (Nat.le_refl _) (Nat.le_refl _) ?_
    intro pc2 L2 σ2 hd2 _ hq2 H2 locs2 ls2 hP3 hS3 _
    obtain ⟨r, _, hp⟩ := hq2
    exact W.vret hx hb (hr.trans hret) (fun t ht hW => ⟨⟨_, rfl, hpo _ hp, by rw [ht]; exact hP3, f_D hI2 hA3 σ2, va_K.moved hW.alike hK⟩, hS3.F ht⟩) hS3.2.2 hd2 hlocks

def k_PcS (E : f_E) (ci : Nat) (fs0 As : List Value) (h0 sz : Nat) (q : Nat × Nat) : Array Value → State → Prop := va_Pc (.ref h0 :: As) (fun U => U.heap.size = sz ∧ va_P E.2.1 vwCl [(h0, .inr (ci, fs0))] U.heap ∧ f_K E U ∧ f_NW U ∧ va_AO RX2 U ∧ f_St (k_A h0 sz) q U U.heap)
/-- the constructor that reads the text -/
def CMS (E : f_E) (Y : f_Y) (d mc ms ci : Nat) (fs0 As : List Value) (Po : Nat → va_W → Prop) : Prop := ∀ (q : Nat × Nat) (h0 sz : Nat), Met E.1 Y.1 (Cond.code Y.1 Y.2.1 Y.2.2.1 Y.2.2.2 :: tb) (k_rm d mc ms) (k_PcS E ci fs0 As h0 sz q) (k_Q E h0 Po (k_A h0 sz)) mc ms (k_A h0 sz)

theorem CMS.intro {E : f_E} {Y : f_Y} {d mc ms ci : Nat} {fs0 As : List Value} {Po : Nat → va_W → Prop} (hcl : Y.1.cls = RX7) (hy : plainName Y.1.cls = true) (hnm : Y.1.name = "<init>") (hret : Y.2.2.2 = none) (hn : ∀ h0, (lg_sl (.ref h0 :: As)).length ≤ Y.2.2.1) {L0 : Nat → f_L} (hL0 : ∀ h0, f_L0 Y.2.2.1 (.ref h0 :: As) = L0 h0)
    (h : ∀ (h0 : Nat) (G : k_G), RulK Y.2.1 Y.1.cls d mc ms E ci h0 Po G → kr_tail (RulS Y.2.1 RX7 d) Y.2.1 Y.1.cls d mc ms E ci h0 Po G → G 0 (L0 h0) [] (fs0, [], 0, 0)) : CMS E Y d mc ms ci fs0 As Po := by
  intro q h0 sz
  refine Met.ofW (cc := Y.2.1) (maxL := Y.2.2.1) (ret := Y.2.2.2) hy rfl ?_
  intro p e s m args below meth c s₁ B hml hv
  obtain ⟨rfl, rfl, hP, hK, hN, hO, hSt⟩ := hv
  have hx := B.exec
  have hb := B.bytes
  have hr := B.returns
  have hts0 := atoms_spec (ws := Cond.code Y.1 Y.2.1 Y.2.2.1 Y.2.2.2 :: tb) B.pre
  have hts : ∀ w ∈ tb, w.before (Value.ref h0 :: As).toArray s = true := fun w hw => hts0 w (List.mem_cons_of_mem _ hw)
  have hown : s.vm.findClass Y.1.cls = some m.cls := findClass_of_methodNamed B.named
  have hmn : meth.name = "<init>" := (name_of_methodNamed B.named B.method).1.trans hnm
  have hlocks := B.notSynchronized
  have hA2 : ∀ q, s.heap.size ≤ q → k_A h0 s.heap.size q := fun q hq => Or.inr hq
  rw [lg_entry_eq]
  have hls := sc_ls (hn h0) (hL0 h0)
  have hD : va_D (k_A h0 s.heap.size) [(h0, .inr (ci, fs0))] := by
    refine ⟨fun i j x y hi hj _ => ?_, fun k q hk => ?_⟩
    · have h1 := (List.getElem?_eq_some_iff.mp hi).1
      have h2 := (List.getElem?_eq_some_iff.mp hj).1
      simp only [List.length_cons, List.length_nil] at h1 h2
      omega
    · have h1 := (List.getElem?_eq_some_iff.mp hk).1
      simp only [List.length_cons, List.length_nil] at h1
      rw [show k = 0 by omega] at hk
      cases hk
      exact Or.inl rfl
  refine h h0 (k_GG p e d mc ms s m (Value.ref h0 :: As).toArray below meth c (MQ below (k_Q E h0 Po (k_A h0 s.heap.size)) (Value.ref h0 :: As).toArray s mc ms (k_A h0 s.heap.size)) (k_A h0 s.heap.size) E ci h0 Y.2.2.1) ?_ ?_ s.heap [] _ hP hD va_S.rf hls (Nat.zero_le _) (Nat.zero_le _)
  · refine ⟨t_kiconst hx hb hml hown hts hN hK hO hmn hA2, t_kbipush hx hb hml hown hts hN hK hO hmn hA2, t_ksipush hx hb hml hown hts hN hK hO hmn hA2, t_knull hx hb hml hown hts hN hK hO hmn hA2, t_kdup hx hb hml hown hts hN hK hO hmn hA2, t_kgoto hx hb hml hown hts hN hK hO hmn hA2, t_kicmp_ge hx hb hml hown hts hN hK hO hmn hA2, t_kicmp_gt hx hb hml hown hts hN hK hO hmn hA2, t_kiload_n hx hb hml hown hts hN hK hO hmn hA2, t_kaload_n hx hb hml hown hts hN hK hO hmn hA2, t_kaloadN_n hx hb hml hown hts hN hK hO hmn hA2, t_kistore_n hx hb hml hown hts hN hK hO hmn hA2, t_kastore_n hx hb hml hown hts hN hK hO hmn hA2, t_kastoreN_n hx hb hml hown hts hN hK hO hmn hA2, t_kiinc hx hb hml hown hts hN hK hO hmn hA2, t_koinit hx hb hml hown hts hN hK hO hmn hA2, t_knew hx hb hml hown hts hN hK hO hmn hA2, t_knewa hx hb hml hown hts hN hK hO hmn hA2, t_knewq hx hb hml hown hts hN hK hO hmn hA2, t_kputf hx hb hml hown hts hN hK hO hmn hA2, t_kgetf hx hb hml hown hts hN hK hO hmn hA2, t_kmax hx hb hml hown hts hN hK hO hmn hA2, t_kinit hx hb hml hown hts hN hK hO hmn hA2, t_kalen hx hb hml hown hts hN hK hO hmn hA2, t_kastq hx hb hml hown hts hN hK hO hmn hA2, t_kfm hx hb hml hown hts hN hK hO hmn hA2, ?_, t_kconv hx hb hml hown hts hN hK hO hmn hA2⟩
    intro pc L fs R k n hd hk hn2 hPo H locs ls hP1 hD1 hS hl _ _
    subst hk hn2
    exact W.vret hx hb (hr.trans hret) (fun t ht hW => ⟨⟨_, rfl, hPo, by rw [ht]; exact hP1, hD1, va_K.moved hW.alike hK⟩, hS.F ht⟩) hS.2.2 hd hlocks
  · intro pc L fs R k n ad S σ post hk hn2 hcv hG hpo H locs ls hP1 hD1 hS hl hkc hns
    subst hk hn2
    obtain ⟨hP2, hI2, hA3⟩ := hcv H _ hP1 hD1
    refine hG (f_GC p e d k n k n s m (Value.ref h0 :: As).toArray below meth c (MQ below (k_Q E h0 Po (k_A h0 s.heap.size)) (Value.ref h0 :: As).toArray s k n (k_A h0 s.heap.size)) (k_A h0 s.heap.size) (k_E E ad) S Y.2.2.1) ?_ (by rw [hcl] at hown; exact RulS_of hx hb hml hown hts hN hSt (Nat.le_refl _) (Nat.le_refl _)) H locs ls hP2 hS hl
    refine Rul_of (E := k_E E ad) hx hb hml hown hts hN hK hI2 hA3 hA2 (Nat.le_refl _) (Nat.le_refl _) ?_
    intro pc2 L2 σ2 hd2 _ hq2 H2 locs2 ls2 hP3 hS3 _
    obtain ⟨r, _, hp⟩ := hq2
    exact W.vret hx hb (hr.trans hret) (fun t ht hW => ⟨⟨_, rfl, hpo _ hp, by rw [ht]; exact hP3, f_D hI2 hA3 σ2, va_K.moved hW.alike hK⟩, hS3.F ht⟩) hS3.2.2 hd2 hlocks
abbrev mX7_init : f_Y := (yX7_init, cX7_init, 3, none)
theorem lcX7_init : f_LC mX7_init := ⟨(tb_in (List.mem_of_getElem? (i := 66) (by decide +kernel)) rfl : Cond.code yX7_init cX7_init 3 none ∈ tb), (tb_in (List.mem_of_getElem? (i := 46) (by decide +kernel)) rfl : Cond.initialized RX7 ∈ tb)⟩
theorem hdX7_init : f_hd mX7_init 0 := ⟨⟨by decide +kernel, by decide +kernel, by decide +kernel⟩, by decide⟩
theorem liL_9 : k_LI RL 9 mX7_init 0 := ⟨lcX7_init, (tb_in (List.mem_of_getElem? (i := 65) (by decide +kernel)) rfl : Cond.instanceMethod yX7_init ∈ tb), rfl, rfl, Or.inl (tb_in (List.mem_of_getElem? (i := 64) (by decide +kernel)) rfl : Cond.methodLink RL 9 yX7_init ∈ tb), hdX7_init⟩
theorem oiX7_1 : Cond.methodLink RX7 1 Lib.objectInit ∈ tb := tb_in (List.mem_of_getElem? (i := 67) (by decide +kernel)) (by decide +kernel)
abbrev mX3_init : f_Y := (yX3_init, cX3_init, 2, none)
theorem lcX3_init : f_LC mX3_init := ⟨(tb_in (List.mem_of_getElem? (i := 74) (by decide +kernel)) rfl : Cond.code yX3_init cX3_init 2 none ∈ tb), (tb_in (List.mem_of_getElem? (i := 47) (by decide +kernel)) rfl : Cond.initialized RX3 ∈ tb)⟩
theorem hdX3_init : f_hd mX3_init 1 := ⟨⟨by decide +kernel, by decide +kernel, by decide +kernel⟩, by decide⟩
theorem liX7_11 : k_LI RX7 11 mX3_init 1 := ⟨lcX3_init, (tb_in (List.mem_of_getElem? (i := 73) (by decide +kernel)) rfl : Cond.instanceMethod yX3_init ∈ tb), rfl, rfl, Or.inl (tb_in (List.mem_of_getElem? (i := 72) (by decide +kernel)) rfl : Cond.methodLink RX7 11 yX3_init ∈ tb), hdX3_init⟩
theorem oiX3_1 : Cond.methodLink RX3 1 Lib.objectInit ∈ tb := tb_in (List.mem_of_getElem? (i := 75) (by decide +kernel)) (by decide +kernel)
abbrev mX1_init : f_Y := (yX1_init, cX1_init, 1, none)
theorem lcX1_init : f_LC mX1_init := ⟨(tb_in (List.mem_of_getElem? (i := 91) (by decide +kernel)) rfl : Cond.code yX1_init cX1_init 1 none ∈ tb), (tb_in (List.mem_of_getElem? (i := 49) (by decide +kernel)) rfl : Cond.initialized RX1 ∈ tb)⟩
theorem hdX1_init : f_hd mX1_init 0 := ⟨⟨by decide +kernel, by decide +kernel, by decide +kernel⟩, by decide⟩
theorem liX7_20 : k_LI RX7 20 mX1_init 0 := ⟨lcX1_init, (tb_in (List.mem_of_getElem? (i := 90) (by decide +kernel)) rfl : Cond.instanceMethod yX1_init ∈ tb), rfl, rfl, Or.inr ⟨_, (nw_in (List.mem_of_getElem? (i := 89) (by decide +kernel)) rfl : Cond.methodLinkNest RX7 20 yX1_init "AsWithTheLast" ∈ nw)⟩, hdX1_init⟩
theorem oiX1_3 : Cond.methodLink RX1 3 Lib.objectInit ∈ tb := tb_in (List.mem_of_getElem? (i := 92) (by decide +kernel)) (by decide +kernel)
theorem liX1_11 : k_LI RX1 11 mX3_init 1 := ⟨lcX3_init, (tb_in (List.mem_of_getElem? (i := 73) (by decide +kernel)) rfl : Cond.instanceMethod yX3_init ∈ tb), rfl, rfl, Or.inl (tb_in (List.mem_of_getElem? (i := 94) (by decide +kernel)) rfl : Cond.methodLink RX1 11 yX3_init ∈ tb), hdX3_init⟩
abbrev mX5_init : f_Y := (yX5_init, cX5_init, 3, none)
theorem lcX5_init : f_LC mX5_init := ⟨(tb_in (List.mem_of_getElem? (i := 145) (by decide +kernel)) rfl : Cond.code yX5_init cX5_init 3 none ∈ tb), (tb_in (List.mem_of_getElem? (i := 50) (by decide +kernel)) rfl : Cond.initialized RX5 ∈ tb)⟩
theorem hdX5_init : f_hd mX5_init 2 := ⟨⟨by decide +kernel, by decide +kernel, by decide +kernel⟩, by decide⟩
theorem liX7_27 : k_LI RX7 27 mX5_init 2 := ⟨lcX5_init, (tb_in (List.mem_of_getElem? (i := 144) (by decide +kernel)) rfl : Cond.instanceMethod yX5_init ∈ tb), rfl, rfl, Or.inl (tb_in (List.mem_of_getElem? (i := 143) (by decide +kernel)) rfl : Cond.methodLink RX7 27 yX5_init ∈ tb), hdX5_init⟩
theorem oiX5_3 : Cond.methodLink RX5 3 Lib.objectInit ∈ tb := tb_in (List.mem_of_getElem? (i := 146) (by decide +kernel)) (by decide +kernel)
theorem liX5_11 : k_LI RX5 11 mX3_init 1 := ⟨lcX3_init, (tb_in (List.mem_of_getElem? (i := 73) (by decide +kernel)) rfl : Cond.instanceMethod yX3_init ∈ tb), rfl, rfl, Or.inl (tb_in (List.mem_of_getElem? (i := 148) (by decide +kernel)) rfl : Cond.methodLink RX5 11 yX3_init ∈ tb), hdX3_init⟩
abbrev mX2_init : f_Y := (yX2_init, cX2_init, 1, none)
theorem lcX2_init : f_LC mX2_init := ⟨(tb_in (List.mem_of_getElem? (i := 163) (by decide +kernel)) rfl : Cond.code yX2_init cX2_init 1 none ∈ tb), (tb_in (List.mem_of_getElem? (i := 51) (by decide +kernel)) rfl : Cond.initialized RX2 ∈ tb)⟩
theorem hdX2_init : f_hd mX2_init 0 := ⟨⟨by decide +kernel, by decide +kernel, by decide +kernel⟩, by decide⟩
theorem liX7_39 : k_LI RX7 39 mX2_init 0 := ⟨lcX2_init, (tb_in (List.mem_of_getElem? (i := 162) (by decide +kernel)) rfl : Cond.instanceMethod yX2_init ∈ tb), rfl, rfl, Or.inl (tb_in (List.mem_of_getElem? (i := 161) (by decide +kernel)) rfl : Cond.methodLink RX7 39 yX2_init ∈ tb), hdX2_init⟩
theorem oiX2_3 : Cond.methodLink RX2 3 Lib.objectInit ∈ tb := tb_in (List.mem_of_getElem? (i := 164) (by decide +kernel)) (by decide +kernel)
theorem liX2_11 : k_LI RX2 11 mX3_init 1 := ⟨lcX3_init, (tb_in (List.mem_of_getElem? (i := 73) (by decide +kernel)) rfl : Cond.instanceMethod yX3_init ∈ tb), rfl, rfl, Or.inl (tb_in (List.mem_of_getElem? (i := 166) (by decide +kernel)) rfl : Cond.methodLink RX2 11 yX3_init ∈ tb), hdX3_init⟩
abbrev mX6_init : f_Y := (yX6_init, cX6_init, 3, none)
theorem lcX6_init : f_LC mX6_init := ⟨(tb_in (List.mem_of_getElem? (i := 200) (by decide +kernel)) rfl : Cond.code yX6_init cX6_init 3 none ∈ tb), (tb_in (List.mem_of_getElem? (i := 52) (by decide +kernel)) rfl : Cond.initialized RX6 ∈ tb)⟩
theorem hdX6_init : f_hd mX6_init 1 := ⟨⟨by decide +kernel, by decide +kernel, by decide +kernel⟩, by decide⟩
theorem liX7_46 : k_LI RX7 46 mX6_init 1 := ⟨lcX6_init, (tb_in (List.mem_of_getElem? (i := 199) (by decide +kernel)) rfl : Cond.instanceMethod yX6_init ∈ tb), rfl, rfl, Or.inl (tb_in (List.mem_of_getElem? (i := 198) (by decide +kernel)) rfl : Cond.methodLink RX7 46 yX6_init ∈ tb), hdX6_init⟩
theorem oiX6_1 : Cond.methodLink RX6 1 Lib.objectInit ∈ tb := tb_in (List.mem_of_getElem? (i := 201) (by decide +kernel)) (by decide +kernel)
theorem liX6_21 : k_LI RX6 21 mX2_init 0 := ⟨lcX2_init, (tb_in (List.mem_of_getElem? (i := 162) (by decide +kernel)) rfl : Cond.instanceMethod yX2_init ∈ tb), rfl, rfl, Or.inl (tb_in (List.mem_of_getElem? (i := 205) (by decide +kernel)) rfl : Cond.methodLink RX6 21 yX2_init ∈ tb), hdX2_init⟩
abbrev mX0_init : f_Y := (yX0_init, cX0_init, 3, none)
theorem lcX0_init : f_LC mX0_init := ⟨(tb_in (List.mem_of_getElem? (i := 217) (by decide +kernel)) rfl : Cond.code yX0_init cX0_init 3 none ∈ tb), (tb_in (List.mem_of_getElem? (i := 53) (by decide +kernel)) rfl : Cond.initialized RX0 ∈ tb)⟩
theorem hdX0_init : f_hd mX0_init 2 := ⟨⟨by decide +kernel, by decide +kernel, by decide +kernel⟩, by decide⟩
theorem liX7_65 : k_LI RX7 65 mX0_init 2 := ⟨lcX0_init, (tb_in (List.mem_of_getElem? (i := 216) (by decide +kernel)) rfl : Cond.instanceMethod yX0_init ∈ tb), rfl, rfl, Or.inl (tb_in (List.mem_of_getElem? (i := 215) (by decide +kernel)) rfl : Cond.methodLink RX7 65 yX0_init ∈ tb), hdX0_init⟩
theorem oiX0_3 : Cond.methodLink RX0 3 Lib.objectInit ∈ tb := tb_in (List.mem_of_getElem? (i := 218) (by decide +kernel)) (by decide +kernel)
theorem liX0_11 : k_LI RX0 11 mX3_init 1 := ⟨lcX3_init, (tb_in (List.mem_of_getElem? (i := 73) (by decide +kernel)) rfl : Cond.instanceMethod yX3_init ∈ tb), rfl, rfl, Or.inl (tb_in (List.mem_of_getElem? (i := 220) (by decide +kernel)) rfl : Cond.methodLink RX0 11 yX3_init ∈ tb), hdX3_init⟩
abbrev mX4_init : f_Y := (yX4_init, cX4_init, 2, none)
theorem lcX4_init : f_LC mX4_init := ⟨(tb_in (List.mem_of_getElem? (i := 253) (by decide +kernel)) rfl : Cond.code yX4_init cX4_init 2 none ∈ tb), (tb_in (List.mem_of_getElem? (i := 54) (by decide +kernel)) rfl : Cond.initialized RX4 ∈ tb)⟩
theorem hdX4_init : f_hd mX4_init 1 := ⟨⟨by decide +kernel, by decide +kernel, by decide +kernel⟩, by decide⟩
theorem liX7_74 : k_LI RX7 74 mX4_init 1 := ⟨lcX4_init, (tb_in (List.mem_of_getElem? (i := 252) (by decide +kernel)) rfl : Cond.instanceMethod yX4_init ∈ tb), rfl, rfl, Or.inl (tb_in (List.mem_of_getElem? (i := 251) (by decide +kernel)) rfl : Cond.methodLink RX7 74 yX4_init ∈ tb), hdX4_init⟩
theorem oiX4_3 : Cond.methodLink RX4 3 Lib.objectInit ∈ tb := tb_in (List.mem_of_getElem? (i := 254) (by decide +kernel)) (by decide +kernel)
theorem liX4_11 : k_LI RX4 11 mX3_init 1 := ⟨lcX3_init, (tb_in (List.mem_of_getElem? (i := 73) (by decide +kernel)) rfl : Cond.instanceMethod yX3_init ∈ tb), rfl, rfl, Or.inl (tb_in (List.mem_of_getElem? (i := 256) (by decide +kernel)) rfl : Cond.methodLink RX4 11 yX3_init ∈ tb), hdX3_init⟩
abbrev mX8_init : f_Y := (yX8_init, cX8_init, 2, none)
theorem lcX8_init : f_LC mX8_init := ⟨(tb_in (List.mem_of_getElem? (i := 812) (by decide +kernel)) rfl : Cond.code yX8_init cX8_init 2 none ∈ tb), (tb_in (List.mem_of_getElem? (i := 60) (by decide +kernel)) rfl : Cond.initialized RX8 ∈ tb)⟩
theorem hdX8_init : f_hd mX8_init 0 := ⟨⟨by decide +kernel, by decide +kernel, by decide +kernel⟩, by decide⟩
theorem liL_12 : k_LI RL 12 mX8_init 0 := ⟨lcX8_init, (tb_in (List.mem_of_getElem? (i := 811) (by decide +kernel)) rfl : Cond.instanceMethod yX8_init ∈ tb), rfl, rfl, Or.inl (tb_in (List.mem_of_getElem? (i := 810) (by decide +kernel)) rfl : Cond.methodLink RL 12 yX8_init ∈ tb), hdX8_init⟩
theorem oiX8_1 : Cond.methodLink RX8 1 Lib.objectInit ∈ tb := tb_in (List.mem_of_getElem? (i := 813) (by decide +kernel)) (by decide +kernel)
theorem clL_7 : Cond.classLink RL 7 RX7 ∈ tb := tb_in (List.mem_of_getElem? (i := 62) (by decide +kernel)) rfl
theorem nlL_7 : k_NL RL 7 7 12 [.null, .null, .null, .null, .null, .null, .null, .null, .null, .null, .null, .null] := ⟨_, _, tyX7, rfl, u_inX7, tyX7_ok, by decide +kernel, clL_7, (tb_in (List.mem_of_getElem? (i := 63) (by decide +kernel)) rfl : Cond.instantiable RX7 12 ∈ tb), (tb_in (List.mem_of_getElem? (i := 46) (by decide +kernel)) rfl : Cond.initialized RX7 ∈ tb)⟩
theorem clX7_7 : Cond.classLink RX7 7 RX3 ∈ tb := tb_in (List.mem_of_getElem? (i := 70) (by decide +kernel)) rfl
theorem nlX7_7 : k_NL RX7 7 3 2 [.null, .int 0] := ⟨_, _, tyX3, rfl, u_inX3, tyX3_ok, by decide +kernel, clX7_7, (tb_in (List.mem_of_getElem? (i := 71) (by decide +kernel)) rfl : Cond.instantiable RX3 2 ∈ tb), (tb_in (List.mem_of_getElem? (i := 47) (by decide +kernel)) rfl : Cond.initialized RX3 ∈ tb)⟩
theorem clX7_18 : Cond.classLink RX7 18 RX1 ∈ tb := tb_in (List.mem_of_getElem? (i := 87) (by decide +kernel)) rfl
theorem nlX7_18 : k_NL RX7 18 1 8 [.null, .null, .null, .null, .null, .null, .int 0, .int 0] := ⟨_, _, tyX1, rfl, u_inX1, tyX1_ok, by decide +kernel, clX7_18, (tb_in (List.mem_of_getElem? (i := 88) (by decide +kernel)) rfl : Cond.instantiable RX1 8 ∈ tb), (tb_in (List.mem_of_getElem? (i := 49) (by decide +kernel)) rfl : Cond.initialized RX1 ∈ tb)⟩
theorem clX1_9 : Cond.classLink RX1 9 RX3 ∈ tb := tb_in (List.mem_of_getElem? (i := 93) (by decide +kernel)) rfl
theorem nlX1_9 : k_NL RX1 9 3 2 [.null, .int 0] := ⟨_, _, tyX3, rfl, u_inX3, tyX3_ok, by decide +kernel, clX1_9, (tb_in (List.mem_of_getElem? (i := 71) (by decide +kernel)) rfl : Cond.instantiable RX3 2 ∈ tb), (tb_in (List.mem_of_getElem? (i := 47) (by decide +kernel)) rfl : Cond.initialized RX3 ∈ tb)⟩
theorem clX7_25 : Cond.classLink RX7 25 RX5 ∈ tb := tb_in (List.mem_of_getElem? (i := 141) (by decide +kernel)) rfl
theorem nlX7_25 : k_NL RX7 25 5 3 [.null, .null, .null] := ⟨_, _, tyX5, rfl, u_inX5, tyX5_ok, by decide +kernel, clX7_25, (tb_in (List.mem_of_getElem? (i := 142) (by decide +kernel)) rfl : Cond.instantiable RX5 3 ∈ tb), (tb_in (List.mem_of_getElem? (i := 50) (by decide +kernel)) rfl : Cond.initialized RX5 ∈ tb)⟩
theorem clX5_9 : Cond.classLink RX5 9 RX3 ∈ tb := tb_in (List.mem_of_getElem? (i := 147) (by decide +kernel)) rfl
theorem nlX5_9 : k_NL RX5 9 3 2 [.null, .int 0] := ⟨_, _, tyX3, rfl, u_inX3, tyX3_ok, by decide +kernel, clX5_9, (tb_in (List.mem_of_getElem? (i := 71) (by decide +kernel)) rfl : Cond.instantiable RX3 2 ∈ tb), (tb_in (List.mem_of_getElem? (i := 47) (by decide +kernel)) rfl : Cond.initialized RX3 ∈ tb)⟩
theorem clX7_37 : Cond.classLink RX7 37 RX2 ∈ tb := tb_in (List.mem_of_getElem? (i := 159) (by decide +kernel)) rfl
theorem nlX7_37 : k_NL RX7 37 2 5 [.null, .null, .int 0, .int 0, .int 0] := ⟨_, _, tyX2, rfl, u_inX2, tyX2_ok, by decide +kernel, clX7_37, (tb_in (List.mem_of_getElem? (i := 160) (by decide +kernel)) rfl : Cond.instantiable RX2 5 ∈ tb), (tb_in (List.mem_of_getElem? (i := 51) (by decide +kernel)) rfl : Cond.initialized RX2 ∈ tb)⟩
theorem clX2_9 : Cond.classLink RX2 9 RX3 ∈ tb := tb_in (List.mem_of_getElem? (i := 165) (by decide +kernel)) rfl
theorem nlX2_9 : k_NL RX2 9 3 2 [.null, .int 0] := ⟨_, _, tyX3, rfl, u_inX3, tyX3_ok, by decide +kernel, clX2_9, (tb_in (List.mem_of_getElem? (i := 71) (by decide +kernel)) rfl : Cond.instantiable RX3 2 ∈ tb), (tb_in (List.mem_of_getElem? (i := 47) (by decide +kernel)) rfl : Cond.initialized RX3 ∈ tb)⟩
theorem clX7_44 : Cond.classLink RX7 44 RX6 ∈ tb := tb_in (List.mem_of_getElem? (i := 196) (by decide +kernel)) rfl
theorem nlX7_44 : k_NL RX7 44 6 2 [.null, .int 0] := ⟨_, _, tyX6, rfl, u_inX6, tyX6_ok, by decide +kernel, clX7_44, (tb_in (List.mem_of_getElem? (i := 197) (by decide +kernel)) rfl : Cond.instantiable RX6 2 ∈ tb), (tb_in (List.mem_of_getElem? (i := 52) (by decide +kernel)) rfl : Cond.initialized RX6 ∈ tb)⟩
theorem clX6_13 : Cond.classLink RX6 13 RX2 ∈ tb := tb_in (List.mem_of_getElem? (i := 203) (by decide +kernel)) rfl
theorem nlX6_13 : k_NL RX6 13 2 5 [.null, .null, .int 0, .int 0, .int 0] := ⟨_, _, tyX2, rfl, u_inX2, tyX2_ok, by decide +kernel, clX6_13, (tb_in (List.mem_of_getElem? (i := 160) (by decide +kernel)) rfl : Cond.instantiable RX2 5 ∈ tb), (tb_in (List.mem_of_getElem? (i := 51) (by decide +kernel)) rfl : Cond.initialized RX2 ∈ tb)⟩
theorem clX7_63 : Cond.classLink RX7 63 RX0 ∈ tb := tb_in (List.mem_of_getElem? (i := 213) (by decide +kernel)) rfl
theorem nlX7_63 : k_NL RX7 63 0 9 [.null, .null, .null, .null, .int 0, .int 0, .int 0, .int 0, .int 0] := ⟨_, _, tyX0, rfl, u_inX0, tyX0_ok, by decide +kernel, clX7_63, (tb_in (List.mem_of_getElem? (i := 214) (by decide +kernel)) rfl : Cond.instantiable RX0 9 ∈ tb), (tb_in (List.mem_of_getElem? (i := 53) (by decide +kernel)) rfl : Cond.initialized RX0 ∈ tb)⟩
theorem clX0_9 : Cond.classLink RX0 9 RX3 ∈ tb := tb_in (List.mem_of_getElem? (i := 219) (by decide +kernel)) rfl
theorem nlX0_9 : k_NL RX0 9 3 2 [.null, .int 0] := ⟨_, _, tyX3, rfl, u_inX3, tyX3_ok, by decide +kernel, clX0_9, (tb_in (List.mem_of_getElem? (i := 71) (by decide +kernel)) rfl : Cond.instantiable RX3 2 ∈ tb), (tb_in (List.mem_of_getElem? (i := 47) (by decide +kernel)) rfl : Cond.initialized RX3 ∈ tb)⟩
theorem clX7_72 : Cond.classLink RX7 72 RX4 ∈ tb := tb_in (List.mem_of_getElem? (i := 249) (by decide +kernel)) rfl
theorem nlX7_72 : k_NL RX7 72 4 5 [.null, .null, .null, .null, .int 0] := ⟨_, _, tyX4, rfl, u_inX4, tyX4_ok, by decide +kernel, clX7_72, (tb_in (List.mem_of_getElem? (i := 250) (by decide +kernel)) rfl : Cond.instantiable RX4 5 ∈ tb), (tb_in (List.mem_of_getElem? (i := 54) (by decide +kernel)) rfl : Cond.initialized RX4 ∈ tb)⟩
theorem clX4_9 : Cond.classLink RX4 9 RX3 ∈ tb := tb_in (List.mem_of_getElem? (i := 255) (by decide +kernel)) rfl
theorem nlX4_9 : k_NL RX4 9 3 2 [.null, .int 0] := ⟨_, _, tyX3, rfl, u_inX3, tyX3_ok, by decide +kernel, clX4_9, (tb_in (List.mem_of_getElem? (i := 71) (by decide +kernel)) rfl : Cond.instantiable RX3 2 ∈ tb), (tb_in (List.mem_of_getElem? (i := 47) (by decide +kernel)) rfl : Cond.initialized RX3 ∈ tb)⟩
theorem clL_10 : Cond.classLink RL 10 RX8 ∈ tb := tb_in (List.mem_of_getElem? (i := 808) (by decide +kernel)) rfl
theorem nlL_10 : k_NL RL 10 8 33 [.null, .int 0, .int 0, .int 0, .null, .int 0, .null, .null, .int 0, .int 0, .null, .null, .int 0, .int 0, .int 0, .null, .int 0, .int 0, .null, .int 0, .null, .null, .null, .null, .null, .null, .null, .null, .int 0, .null, .null, .null, .int 0] := ⟨_, _, tyX8, rfl, u_inX8, tyX8_ok, by decide +kernel, clL_10, (tb_in (List.mem_of_getElem? (i := 809) (by decide +kernel)) rfl : Cond.instantiable RX8 33 ∈ tb), (tb_in (List.mem_of_getElem? (i := 60) (by decide +kernel)) rfl : Cond.initialized RX8 ∈ tb)⟩
theorem ffX0_14 : k_FF RX0 14 0 2 := ⟨_, _, 9, tyX0, rfl, u_inX0, by decide, (tb_in (List.mem_of_getElem? (i := 223) (by decide +kernel)) rfl : Cond.fieldLink RX0 14 RX0 "latest" "LAsWithTheLast$Numbers;" ∈ tb), tyX0_ok, nmX0, rfl, rfl, k_rfl_o _⟩
theorem ffX0_20 : k_FF RX0 20 0 3 := ⟨_, _, 9, tyX0, rfl, u_inX0, by decide, (tb_in (List.mem_of_getElem? (i := 224) (by decide +kernel)) rfl : Cond.fieldLink RX0 20 RX0 "latestDoing" "LAsWithTheLast$Numbers;" ∈ tb), tyX0_ok, nmX0, rfl, rfl, k_rfl_o _⟩
theorem ffX0_23 : k_FF RX0 23 0 0 := ⟨_, _, 9, tyX0, rfl, u_inX0, by decide, (tb_in (List.mem_of_getElem? (i := 221) (by decide +kernel)) rfl : Cond.fieldLink RX0 23 RX0 "lesson" "LAsWithTheLast$Lesson;" ∈ tb), tyX0_ok, nmX0, rfl, rfl, k_rfl_o _⟩
theorem ffX0_27 : k_FF RX0 27 0 1 := ⟨_, _, 9, tyX0, rfl, u_inX0, by decide, (tb_in (List.mem_of_getElem? (i := 222) (by decide +kernel)) rfl : Cond.fieldLink RX0 27 RX0 "below" "LAsWithTheLast$Learner;" ∈ tb), tyX0_ok, nmX0, rfl, rfl, k_rfl_o _⟩
theorem ffX1_14 : k_FF RX1 14 1 0 := ⟨_, _, 8, tyX1, rfl, u_inX1, by decide, (tb_in (List.mem_of_getElem? (i := 95) (by decide +kernel)) rfl : Cond.fieldLink RX1 14 RX1 "marks" "LAsWithTheLast$Numbers;" ∈ tb), tyX1_ok, nmX1, rfl, rfl, k_rfl_o _⟩
theorem ffX1_20 : k_FF RX1 20 1 1 := ⟨_, _, 8, tyX1, rfl, u_inX1, by decide, (tb_in (List.mem_of_getElem? (i := 99) (by decide +kernel)) rfl : Cond.fieldLink RX1 20 RX1 "right" "LAsWithTheLast$Numbers;" ∈ tb), tyX1_ok, nmX1, rfl, rfl, k_rfl_o _⟩
theorem ffX1_23 : k_FF RX1 23 1 2 := ⟨_, _, 8, tyX1, rfl, u_inX1, by decide, (tb_in (List.mem_of_getElem? (i := 104) (by decide +kernel)) rfl : Cond.fieldLink RX1 23 RX1 "spoilers" "LAsWithTheLast$Numbers;" ∈ tb), tyX1_ok, nmX1, rfl, rfl, k_rfl_o _⟩
theorem ffX1_26 : k_FF RX1 26 1 3 := ⟨_, _, 8, tyX1, rfl, u_inX1, by decide, (tb_in (List.mem_of_getElem? (i := 107) (by decide +kernel)) rfl : Cond.fieldLink RX1 26 RX1 "worth" "LAsWithTheLast$Numbers;" ∈ tb), tyX1_ok, nmX1, rfl, rfl, k_rfl_o _⟩
theorem ffX1_29 : k_FF RX1 29 1 4 := ⟨_, _, 8, tyX1, rfl, u_inX1, by decide, (tb_in (List.mem_of_getElem? (i := 110) (by decide +kernel)) rfl : Cond.fieldLink RX1 29 RX1 "chance" "LAsWithTheLast$Numbers;" ∈ tb), tyX1_ok, nmX1, rfl, rfl, k_rfl_o _⟩
theorem ffX1_32 : k_FF RX1 32 1 5 := ⟨_, _, 8, tyX1, rfl, u_inX1, by decide, (tb_in (List.mem_of_getElem? (i := 113) (by decide +kernel)) rfl : Cond.fieldLink RX1 32 RX1 "errands" "LAsWithTheLast$Numbers;" ∈ tb), tyX1_ok, nmX1, rfl, rfl, k_rfl_o _⟩
theorem ffX2_14 : k_FF RX2 14 2 0 := ⟨_, _, 5, tyX2, rfl, u_inX2, by decide, (tb_in (List.mem_of_getElem? (i := 175) (by decide +kernel)) rfl : Cond.fieldLink RX2 14 RX2 "words" "LAsWithTheLast$Numbers;" ∈ tb), tyX2_ok, nmX2, rfl, rfl, k_rfl_o _⟩
theorem ffX2_20 : k_FF RX2 20 2 1 := ⟨_, _, 5, tyX2, rfl, u_inX2, by decide, (tb_in (List.mem_of_getElem? (i := 177) (by decide +kernel)) rfl : Cond.fieldLink RX2 20 RX2 "handed" "LAsWithTheLast$Numbers;" ∈ tb), tyX2_ok, nmX2, rfl, rfl, k_rfl_o _⟩
theorem ffX3_13 : k_FF RX3 13 3 0 := ⟨_, _, 2, tyX3, rfl, u_inX3, by decide, (tb_in (List.mem_of_getElem? (i := 79) (by decide +kernel)) rfl : Cond.fieldLink RX3 13 RX3 "items" "[I" ∈ tb), tyX3_ok, nmX3, rfl, rfl, k_rfl_a _⟩
theorem ffX4_14 : k_FF RX4 14 4 1 := ⟨_, _, 5, tyX4, rfl, u_inX4, by decide, (tb_in (List.mem_of_getElem? (i := 258) (by decide +kernel)) rfl : Cond.fieldLink RX4 14 RX4 "left" "LAsWithTheLast$Numbers;" ∈ tb), tyX4_ok, nmX4, rfl, rfl, k_rfl_o _⟩
theorem ffX4_20 : k_FF RX4 20 4 2 := ⟨_, _, 5, tyX4, rfl, u_inX4, by decide, (tb_in (List.mem_of_getElem? (i := 259) (by decide +kernel)) rfl : Cond.fieldLink RX4 20 RX4 "tried" "LAsWithTheLast$Numbers;" ∈ tb), tyX4_ok, nmX4, rfl, rfl, k_rfl_o _⟩
theorem ffX4_23 : k_FF RX4 23 4 3 := ⟨_, _, 5, tyX4, rfl, u_inX4, by decide, (tb_in (List.mem_of_getElem? (i := 260) (by decide +kernel)) rfl : Cond.fieldLink RX4 23 RX4 "best" "LAsWithTheLast$Numbers;" ∈ tb), tyX4_ok, nmX4, rfl, rfl, k_rfl_o _⟩
theorem ffX4_26 : k_FF RX4 26 4 0 := ⟨_, _, 5, tyX4, rfl, u_inX4, by decide, (tb_in (List.mem_of_getElem? (i := 257) (by decide +kernel)) rfl : Cond.fieldLink RX4 26 RX4 "lesson" "LAsWithTheLast$Lesson;" ∈ tb), tyX4_ok, nmX4, rfl, rfl, k_rfl_o _⟩
theorem ffX5_14 : k_FF RX5 14 5 2 := ⟨_, _, 3, tyX5, rfl, u_inX5, by decide, (tb_in (List.mem_of_getElem? (i := 151) (by decide +kernel)) rfl : Cond.fieldLink RX5 14 RX5 "numbers" "LAsWithTheLast$Numbers;" ∈ tb), tyX5_ok, nmX5, rfl, rfl, k_rfl_o _⟩
theorem ffX5_20 : k_FF RX5 20 5 0 := ⟨_, _, 3, tyX5, rfl, u_inX5, by decide, (tb_in (List.mem_of_getElem? (i := 149) (by decide +kernel)) rfl : Cond.fieldLink RX5 20 RX5 "text" "LAsWithTheLast$Numbers;" ∈ tb), tyX5_ok, nmX5, rfl, rfl, k_rfl_o _⟩
theorem ffX5_23 : k_FF RX5 23 5 1 := ⟨_, _, 3, tyX5, rfl, u_inX5, by decide, (tb_in (List.mem_of_getElem? (i := 150) (by decide +kernel)) rfl : Cond.fieldLink RX5 23 RX5 "lesson" "LAsWithTheLast$Lesson;" ∈ tb), tyX5_ok, nmX5, rfl, rfl, k_rfl_o _⟩
theorem ffX6_15 : k_FF RX6 15 6 0 := ⟨_, _, 2, tyX6, rfl, u_inX6, by decide, (tb_in (List.mem_of_getElem? (i := 206) (by decide +kernel)) rfl : Cond.fieldLink RX6 15 RX6 "places" "[LAsWithTheLast$Memory;" ∈ tb), tyX6_ok, nmX6, rfl, rfl, k_rfl_a _⟩
theorem ffX7_14 : k_FF RX7 14 7 0 := ⟨_, _, 12, tyX7, rfl, u_inX7, by decide, (tb_in (List.mem_of_getElem? (i := 407) (by decide +kernel)) rfl : Cond.fieldLink RX7 14 RX7 "text" "LAsWithTheLast$Numbers;" ∈ tb), tyX7_ok, nmX7, rfl, rfl, k_rfl_o _⟩
theorem ffX7_21 : k_FF RX7 21 7 1 := ⟨_, _, 12, tyX7, rfl, u_inX7, by decide, (tb_in (List.mem_of_getElem? (i := 408) (by decide +kernel)) rfl : Cond.fieldLink RX7 21 RX7 "told" "LAsWithTheLast$Lesson;" ∈ tb), tyX7_ok, nmX7, rfl, rfl, k_rfl_o _⟩
theorem ffX7_30 : k_FF RX7 30 7 2 := ⟨_, _, 12, tyX7, rfl, u_inX7, by decide, (tb_in (List.mem_of_getElem? (i := 409) (by decide +kernel)) rfl : Cond.fieldLink RX7 30 RX7 "reader" "LAsWithTheLast$Reader;" ∈ tb), tyX7_ok, nmX7, rfl, rfl, k_rfl_o _⟩
theorem ffX7_34 : k_FF RX7 34 7 3 := ⟨_, _, 12, tyX7, rfl, u_inX7, by decide, (tb_in (List.mem_of_getElem? (i := 410) (by decide +kernel)) rfl : Cond.fieldLink RX7 34 RX7 "laid" "LAsWithTheLast$Lesson;" ∈ tb), tyX7_ok, nmX7, rfl, rfl, k_rfl_o _⟩
theorem ffX7_40 : k_FF RX7 40 7 4 := ⟨_, _, 12, tyX7, rfl, u_inX7, by decide, (tb_in (List.mem_of_getElem? (i := 411) (by decide +kernel)) rfl : Cond.fieldLink RX7 40 RX7 "memory" "LAsWithTheLast$Memory;" ∈ tb), tyX7_ok, nmX7, rfl, rfl, k_rfl_o _⟩
theorem ffX7_47 : k_FF RX7 47 7 5 := ⟨_, _, 12, tyX7, rfl, u_inX7, by decide, (tb_in (List.mem_of_getElem? (i := 412) (by decide +kernel)) rfl : Cond.fieldLink RX7 47 RX7 "past" "LAsWithTheLast$Shelf;" ∈ tb), tyX7_ok, nmX7, rfl, rfl, k_rfl_o _⟩
theorem ffX7_51 : k_FF RX7 51 7 6 := ⟨_, _, 12, tyX7, rfl, u_inX7, by decide, (tb_in (List.mem_of_getElem? (i := 413) (by decide +kernel)) rfl : Cond.fieldLink RX7 51 RX7 "kept" "LAsWithTheLast$Shelf;" ∈ tb), tyX7_ok, nmX7, rfl, rfl, k_rfl_o _⟩
theorem ffX7_54 : k_FF RX7 54 7 7 := ⟨_, _, 12, tyX7, rfl, u_inX7, by decide, (tb_in (List.mem_of_getElem? (i := 414) (by decide +kernel)) rfl : Cond.fieldLink RX7 54 RX7 "seenThings" "LAsWithTheLast$Numbers;" ∈ tb), tyX7_ok, nmX7, rfl, rfl, k_rfl_o _⟩
theorem ffX7_57 : k_FF RX7 57 7 8 := ⟨_, _, 12, tyX7, rfl, u_inX7, by decide, (tb_in (List.mem_of_getElem? (i := 415) (by decide +kernel)) rfl : Cond.fieldLink RX7 57 RX7 "times" "LAsWithTheLast$Numbers;" ∈ tb), tyX7_ok, nmX7, rfl, rfl, k_rfl_o _⟩
theorem ffX7_60 : k_FF RX7 60 7 9 := ⟨_, _, 12, tyX7, rfl, u_inX7, by decide, (tb_in (List.mem_of_getElem? (i := 416) (by decide +kernel)) rfl : Cond.fieldLink RX7 60 RX7 "alike" "LAsWithTheLast$Numbers;" ∈ tb), tyX7_ok, nmX7, rfl, rfl, k_rfl_o _⟩
theorem ffX7_68 : k_FF RX7 68 7 10 := ⟨_, _, 12, tyX7, rfl, u_inX7, by decide, (tb_in (List.mem_of_getElem? (i := 417) (by decide +kernel)) rfl : Cond.fieldLink RX7 68 RX7 "learner" "LAsWithTheLast$Learner;" ∈ tb), tyX7_ok, nmX7, rfl, rfl, k_rfl_o _⟩
theorem ffX7_77 : k_FF RX7 77 7 11 := ⟨_, _, 12, tyX7, rfl, u_inX7, by decide, (tb_in (List.mem_of_getElem? (i := 418) (by decide +kernel)) rfl : Cond.fieldLink RX7 77 RX7 "orders" "LAsWithTheLast$Orders;" ∈ tb), tyX7_ok, nmX7, rfl, rfl, k_rfl_o _⟩
theorem ffX8_7 : k_FF RX8 7 8 0 := ⟨_, _, 33, tyX8, rfl, u_inX8, by decide, (tb_in (List.mem_of_getElem? (i := 818) (by decide +kernel)) rfl : Cond.fieldLink RX8 7 RX8 "told" "[I" ∈ tb), tyX8_ok, nmX8, rfl, rfl, k_rfl_a _⟩
theorem ffX8_13 : k_FF RX8 13 8 4 := ⟨_, _, 33, tyX8, rfl, u_inX8, by decide, (tb_in (List.mem_of_getElem? (i := 822) (by decide +kernel)) rfl : Cond.fieldLink RX8 13 RX8 "errands" "[I" ∈ tb), tyX8_ok, nmX8, rfl, rfl, k_rfl_a _⟩
theorem ffX8_16 : k_FF RX8 16 8 6 := ⟨_, _, 33, tyX8, rfl, u_inX8, by decide, (tb_in (List.mem_of_getElem? (i := 824) (by decide +kernel)) rfl : Cond.fieldLink RX8 16 RX8 "st" "[I" ∈ tb), tyX8_ok, nmX8, rfl, rfl, k_rfl_a _⟩
theorem ffX8_19 : k_FF RX8 19 8 7 := ⟨_, _, 33, tyX8, rfl, u_inX8, by decide, (tb_in (List.mem_of_getElem? (i := 825) (by decide +kernel)) rfl : Cond.fieldLink RX8 19 RX8 "text" "[I" ∈ tb), tyX8_ok, nmX8, rfl, rfl, k_rfl_a _⟩
theorem ffX8_22 : k_FF RX8 22 8 10 := ⟨_, _, 33, tyX8, rfl, u_inX8, by decide, (tb_in (List.mem_of_getElem? (i := 828) (by decide +kernel)) rfl : Cond.fieldLink RX8 22 RX8 "number" "[I" ∈ tb), tyX8_ok, nmX8, rfl, rfl, k_rfl_a _⟩
theorem ffX8_25 : k_FF RX8 25 8 11 := ⟨_, _, 33, tyX8, rfl, u_inX8, by decide, (tb_in (List.mem_of_getElem? (i := 829) (by decide +kernel)) rfl : Cond.fieldLink RX8 25 RX8 "readTold" "[I" ∈ tb), tyX8_ok, nmX8, rfl, rfl, k_rfl_a _⟩
theorem ffX8_28 : k_FF RX8 28 8 15 := ⟨_, _, 33, tyX8, rfl, u_inX8, by decide, (tb_in (List.mem_of_getElem? (i := 833) (by decide +kernel)) rfl : Cond.fieldLink RX8 28 RX8 "readErrands" "[I" ∈ tb), tyX8_ok, nmX8, rfl, rfl, k_rfl_a _⟩
theorem ffX8_31 : k_FF RX8 31 8 18 := ⟨_, _, 33, tyX8, rfl, u_inX8, by decide, (tb_in (List.mem_of_getElem? (i := 836) (by decide +kernel)) rfl : Cond.fieldLink RX8 31 RX8 "ahead" "[I" ∈ tb), tyX8_ok, nmX8, rfl, rfl, k_rfl_a _⟩
theorem ffX8_34 : k_FF RX8 34 8 20 := ⟨_, _, 33, tyX8, rfl, u_inX8, by decide, (tb_in (List.mem_of_getElem? (i := 838) (by decide +kernel)) rfl : Cond.fieldLink RX8 34 RX8 "aside" "[I" ∈ tb), tyX8_ok, nmX8, rfl, rfl, k_rfl_a _⟩
theorem ffX8_37 : k_FF RX8 37 8 21 := ⟨_, _, 33, tyX8, rfl, u_inX8, by decide, (tb_in (List.mem_of_getElem? (i := 839) (by decide +kernel)) rfl : Cond.fieldLink RX8 37 RX8 "done" "[I" ∈ tb), tyX8_ok, nmX8, rfl, rfl, k_rfl_a _⟩
theorem ffX8_40 : k_FF RX8 40 8 22 := ⟨_, _, 33, tyX8, rfl, u_inX8, by decide, (tb_in (List.mem_of_getElem? (i := 840) (by decide +kernel)) rfl : Cond.fieldLink RX8 40 RX8 "went" "[I" ∈ tb), tyX8_ok, nmX8, rfl, rfl, k_rfl_a _⟩
theorem ffX8_43 : k_FF RX8 43 8 23 := ⟨_, _, 33, tyX8, rfl, u_inX8, by decide, (tb_in (List.mem_of_getElem? (i := 841) (by decide +kernel)) rfl : Cond.fieldLink RX8 43 RX8 "passes" "[I" ∈ tb), tyX8_ok, nmX8, rfl, rfl, k_rfl_a _⟩
theorem ffX8_46 : k_FF RX8 46 8 24 := ⟨_, _, 33, tyX8, rfl, u_inX8, by decide, (tb_in (List.mem_of_getElem? (i := 842) (by decide +kernel)) rfl : Cond.fieldLink RX8 46 RX8 "had" "[I" ∈ tb), tyX8_ok, nmX8, rfl, rfl, k_rfl_a _⟩
theorem ffX8_49 : k_FF RX8 49 8 25 := ⟨_, _, 33, tyX8, rfl, u_inX8, by decide, (tb_in (List.mem_of_getElem? (i := 843) (by decide +kernel)) rfl : Cond.fieldLink RX8 49 RX8 "bestRow" "[I" ∈ tb), tyX8_ok, nmX8, rfl, rfl, k_rfl_a _⟩
theorem ffX8_52 : k_FF RX8 52 8 26 := ⟨_, _, 33, tyX8, rfl, u_inX8, by decide, (tb_in (List.mem_of_getElem? (i := 844) (by decide +kernel)) rfl : Cond.fieldLink RX8 52 RX8 "seenAt" "[I" ∈ tb), tyX8_ok, nmX8, rfl, rfl, k_rfl_a _⟩
theorem ffX8_55 : k_FF RX8 55 8 27 := ⟨_, _, 33, tyX8, rfl, u_inX8, by decide, (tb_in (List.mem_of_getElem? (i := 845) (by decide +kernel)) rfl : Cond.fieldLink RX8 55 RX8 "seenDid" "[I" ∈ tb), tyX8_ok, nmX8, rfl, rfl, k_rfl_a _⟩
theorem ffX8_58 : k_FF RX8 58 8 29 := ⟨_, _, 33, tyX8, rfl, u_inX8, by decide, (tb_in (List.mem_of_getElem? (i := 847) (by decide +kernel)) rfl : Cond.fieldLink RX8 58 RX8 "ahead1" "[I" ∈ tb), tyX8_ok, nmX8, rfl, rfl, k_rfl_a _⟩
theorem ffX8_61 : k_FF RX8 61 8 30 := ⟨_, _, 33, tyX8, rfl, u_inX8, by decide, (tb_in (List.mem_of_getElem? (i := 848) (by decide +kernel)) rfl : Cond.fieldLink RX8 61 RX8 "ahead2" "[I" ∈ tb), tyX8_ok, nmX8, rfl, rfl, k_rfl_a _⟩
theorem ffX8_64 : k_FF RX8 64 8 31 := ⟨_, _, 33, tyX8, rfl, u_inX8, by decide, (tb_in (List.mem_of_getElem? (i := 849) (by decide +kernel)) rfl : Cond.fieldLink RX8 64 RX8 "kept" "[I" ∈ tb), tyX8_ok, nmX8, rfl, rfl, k_rfl_a _⟩
