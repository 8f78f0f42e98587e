
theorem cntN : ∀ d, d < 32 → (((nI d &&& 31).toBitVec).smod 32).toNat = d := by decide +kernel
theorem iI_shr {m d : Nat} (hm : m < 2147483648) (hd : d < 32) : iI m >>> (iI d &&& 31) = iI ((m / 2 ^ d : Nat) : Int) := by
  rw [← iI_nI, ← iI_nI, ← iI_nI]
  exact pk_shrN hm _ d (cntN d hd)
theorem iI_shl {m d : Nat} (hd : d < 32) (h : m * 2 ^ d < 4294967296) : iI m <<< (iI d &&& 31) = iI ((m * 2 ^ d : Nat) : Int) := by
  rw [← iI_nI, ← iI_nI, ← iI_nI]
  exact pk_shlN _ d (cntN d hd) h
section ZS
variable {ρ0 : Type} {cc : ByteArray} {own : String} {ret : Option FieldType} {D : Nat} {E : f_E} {S : f_S} {encR : ρ0 → Option Value} {post : ρ0 → f_Mem → Prop} {G : f_G} {pc : Nat} {L : f_L} {st : List Value} {σ : f_Mem}
theorem g_ishr (hR : Rul cc own ret D E S encR post G) {m d : Nat} (hd : decode cc pc = .ok (.ishr, 1)) (hm : m < 2147483648) (h2 : d < 32) (k : G (pc + 1) L (.int (iI ((m / 2 ^ d : Nat) : Int)) :: st) σ) : G pc L (.int (iI (d : Int)) :: .int (iI (m : Int)) :: st) σ := k_ishr hR pc L st σ (iI m) (iI d) hd (by rw [iI_shr hm h2]; exact k)
theorem g_ishl (hR : Rul cc own ret D E S encR post G) {m d : Nat} (hd : decode cc pc = .ok (.ishl, 1)) (h2 : d < 32) (h : m * 2 ^ d < 4294967296) (k : G (pc + 1) L (.int (iI ((m * 2 ^ d : Nat) : Int)) :: st) σ) : G pc L (.int (iI (d : Int)) :: .int (iI (m : Int)) :: st) σ := k_ishl hR pc L st σ (iI m) (iI d) hd (by rw [iI_shl h2 h]; exact k)
/-- a bit taken, the 1 as it stands on the stack -/
theorem g_iand1 (hR : Rul cc own ret D E S encR post G) {m : Nat} (hd : decode cc pc = .ok (.iand, 1)) (k : G (pc + 1) L (.int (iI ((m % 2 : Nat) : Int)) :: st) σ) : G pc L (.int (iI 1) :: .int (iI (m : Int)) :: st) σ := g_iand hR (a := m) (b := 1) hd (by rw [Nat.and_one_is_mod]; exact k)
end ZS
def pc5 (n : Nat) : Nat := n % 2 + n / 2 % 2 + n / 4 % 2 + n / 8 % 2 + n / 16 % 2
theorem pc5_le (n : Nat) : pc5 n ≤ 5 := by unfold pc5; omega
def f_sr (x y : Int32) : Int32 := (x.toUInt32 >>> (y.toUInt32 &&& Int32.toUInt32 31)).toInt32
def bc1 (x : Int32) : Int32 := x - ((f_sr x (iI 1)) &&& iI 1431655765)
def bc2 (x : Int32) : Int32 := (x &&& iI 858993459) + ((f_sr x (iI 2)) &&& iI 858993459)
def bc3 (x : Int32) : Int32 := (x + f_sr x (iI 4)) &&& iI 252645135
def bc4 (x : Int32) : Int32 := x + f_sr x (iI 8)
def bc5 (x : Int32) : Int32 := x + f_sr x (iI 16)
theorem bc_ok : ∀ n : Nat, n < 32 → bc5 (bc4 (bc3 (bc2 (bc1 (iI n))))) &&& iI 63 = iI (pc5 n) := by decide +kernel
abbrev Les : Type := List Nat × List Nat × List Nat × List Nat × List Nat × List Nat × Nat × Nat
def Lm (L : Les) : List Nat := L.1
def Lr (L : Les) : List Nat := L.2.1
def Lp (L : Les) : List Nat := L.2.2.1
def Lw (L : Les) : List Nat := L.2.2.2.1
def Lc (L : Les) : List Nat := L.2.2.2.2.1
def Lrow (L : Les) : List Nat := L.2.2.2.2.2.1
def Lsort (L : Les) : Nat := L.2.2.2.2.2.2.1
def Lfirst (L : Les) : Nat := L.2.2.2.2.2.2.2
/-- a lesson as it may be told -/
def LesOK (L : Les) : Prop := ((Lm L).length ≤ 6 ∧ (Lr L).length = (Lm L).length ∧ (Lp L).length = (Lm L).length ∧ (Lw L).length = (Lm L).length ∧ (Lc L).length = (Lm L).length) ∧ ((∀ v ∈ Lm L, v < 32) ∧ (∀ v ∈ Lr L, v < 6) ∧ (∀ v ∈ Lp L, v < 64) ∧ (∀ v ∈ Lw L, v ≤ 20) ∧ (∀ v ∈ Lc L, 1 ≤ v ∧ v ≤ 9)) ∧ ((Lrow L).length ≤ 10 ∧ ∀ v ∈ Lrow L, v < (Lm L).length) ∧ Lsort L < 4 ∧ Lfirst L < 6
theorem getD_lt {l : List Nat} {b : Nat} (h : ∀ v ∈ l, v < b) (hb : 0 < b) (i : Nat) : l.getD i 0 < b := by
  by_cases hi : i < l.length
  · exact h _ (getD_mem hi)
  · rw [getD_out (by omega)]; exact hb
theorem LesOK.k {L : Les} (h : LesOK L) : (Lm L).length ≤ 6 := h.1.1
theorem LesOK.m {L : Les} (h : LesOK L) (k : Nat) : (Lm L).getD k 0 < 32 := getD_lt h.2.1.1 (by omega) k
theorem LesOK.r {L : Les} (h : LesOK L) (k : Nat) : (Lr L).getD k 0 < 6 := getD_lt h.2.1.2.1 (by omega) k
theorem LesOK.p {L : Les} (h : LesOK L) (k : Nat) : (Lp L).getD k 0 < 64 := getD_lt h.2.1.2.2.1 (by omega) k
theorem LesOK.w {L : Les} (h : LesOK L) (k : Nat) : (Lw L).getD k 0 ≤ 20 := Nat.le_of_lt_succ (getD_lt (fun v hv => Nat.lt_succ_of_le (h.2.1.2.2.2.1 v hv)) (by omega) k)
theorem LesOK.c {L : Les} (h : LesOK L) (k : Nat) : (Lc L).getD k 0 ≤ 9 := Nat.le_of_lt_succ (getD_lt (fun v hv => Nat.lt_succ_of_le (h.2.1.2.2.2.2 v hv).2) (by omega) k)
theorem LesOK.s {L : Les} (h : LesOK L) : Lsort L < 4 := h.2.2.2.1
theorem LesOK.f {L : Les} (h : LesOK L) : Lfirst L < 6 := h.2.2.2.2
theorem LesOK.rl {L : Les} (h : LesOK L) : (Lrow L).length ≤ 10 := h.2.2.1.1
theorem LesOK.rk {L : Les} (h : LesOK L) {i : Nat} (hi : i < (Lrow L).length) : (Lrow L).getD i 0 < (Lm L).length := h.2.2.1.2 _ (getD_mem hi)
/-- how it goes; what is lost -/
def oc (L : Les) (k d : Nat) : Nat := if d = (Lr L).getD k 0 then 0 else if (Lp L).getD k 0 / 2 ^ d % 2 = 1 then 1 else 2
def lo (L : Les) (k d : Nat) : Nat := if oc L k d = 1 then (Lw L).getD k 0 else 0
theorem oc_le (L : Les) (k d : Nat) : oc L k d ≤ 2 := by 
  unfold oc
  split
  · omega
  · split <;> omega
theorem lo_le {L : Les} (h : LesOK L) (k d : Nat) : lo L k d ≤ 20 := by 
  unfold lo
  split
  · exact h.w k
  · omega
def ap (L : Les) (k j : Nat) : Nat := pc5 ((Lm L).getD k 0 ^^^ (Lm L).getD j 0)
/-- a Lesson object -/
def Lsn (σ : f_Mem) (n : Nat) (L : Les) : Prop := isLsn n ∧ Num σ (n + 1) 6 (Lm L) ∧ Num σ (n + 3) 6 (Lr L) ∧ Num σ (n + 5) 6 (Lp L) ∧ Num σ (n + 7) 6 (Lw L) ∧ Num σ (n + 9) 6 (Lc L) ∧ Num σ (n + 11) 10 (Lrow L) ∧ σ n 6 = iI (Lsort L) ∧ σ n 7 = iI (Lfirst L)
theorem Lsn.sh {σ : f_Mem} {n : Nat} {L : Les} (h : Lsn σ n L) : isLsn n := h.1
theorem Lsn.m {σ : f_Mem} {n : Nat} {L : Les} (h : Lsn σ n L) : Num σ (n + 1) 6 (Lm L) := h.2.1
theorem Lsn.r {σ : f_Mem} {n : Nat} {L : Les} (h : Lsn σ n L) : Num σ (n + 3) 6 (Lr L) := h.2.2.1
theorem Lsn.p {σ : f_Mem} {n : Nat} {L : Les} (h : Lsn σ n L) : Num σ (n + 5) 6 (Lp L) := h.2.2.2.1
theorem Lsn.w {σ : f_Mem} {n : Nat} {L : Les} (h : Lsn σ n L) : Num σ (n + 7) 6 (Lw L) := h.2.2.2.2.1
theorem Lsn.c {σ : f_Mem} {n : Nat} {L : Les} (h : Lsn σ n L) : Num σ (n + 9) 6 (Lc L) := h.2.2.2.2.2.1
theorem Lsn.row {σ : f_Mem} {n : Nat} {L : Les} (h : Lsn σ n L) : Num σ (n + 11) 10 (Lrow L) := h.2.2.2.2.2.2.1
theorem Lsn.sort {σ : f_Mem} {n : Nat} {L : Les} (h : Lsn σ n L) : σ n 6 = iI (Lsort L) := h.2.2.2.2.2.2.2.1
theorem Lsn.first {σ : f_Mem} {n : Nat} {L : Les} (h : Lsn σ n L) : σ n 7 = iI (Lfirst L) := h.2.2.2.2.2.2.2.2
theorem Lsn.fr {σ u : f_Mem} {n a b : Nat} {L : Les} (h : Lsn σ n L) (hf : Fr σ u a b) (hd : n + 12 < a ∨ b ≤ n) : Lsn u n L :=
  ⟨h.sh, h.m.fr hf (by omega), h.r.fr hf (by omega), h.p.fr hf (by omega), h.w.fr hf (by omega), h.c.fr hf (by omega), h.row.fr hf (by omega), by rw [hf n (by omega)]; exact h.sort, by rw [hf n (by omega)]; exact h.first⟩

theorem C_isWithin {E : f_E} {σ : f_Mem} {a lo hi : Int} (ha : -2147483648 ≤ a ∧ a < 2147483648) (hlo : -2147483648 ≤ lo ∧ lo < 2147483648) (hhi : -2147483648 ≤ hi ∧ hi < 2147483648) : FZ E sC mX7_isWithin 0 [.int (iI a), .int (iI lo), .int (iI hi)] σ (if lo ≤ a ∧ a ≤ hi then 1 else 0) (fun u => u = σ) := by
  refine FZ.intro rfl (Nat.le_of_ble_eq_true rfl) (L0 := [some (.int (iI a)), some (.int (iI lo)), some (.int (iI hi))]) rfl (fun G hR => ?_)
  refine g_iload_0 hR dX7_isWithin_0 (g_iload_1 hR dX7_isWithin_1 (g_icmp_lt hR 14 dX7_isWithin_2 (by decide) (by omega) (by omega) (fun c2 => ?_) (fun c2 => ?_)))
  · skip
    refine g_iconst hR dX7_isWithin_14 ?_
    exact g_zret hR dX7_isWithin_15 rfl (by omega) (by rw [if_neg (by omega)]) rfl
  · skip
    refine g_iload_0 hR dX7_isWithin_5 (g_iload_2 hR dX7_isWithin_6 (g_icmp_gt hR 14 dX7_isWithin_7 (by decide) (by omega) (by omega) (fun c7 => ?_) (fun c7 => ?_)))
    · skip
      refine g_iconst hR dX7_isWithin_14 ?_
      exact g_zret hR dX7_isWithin_15 rfl (by omega) (by rw [if_neg (by omega)]) rfl
    · skip
      refine g_iconst hR dX7_isWithin_10 (g_goto hR 15 dX7_isWithin_11 (by decide) ?_)
      exact g_zret hR dX7_isWithin_15 rfl (by omega) (by rw [if_pos (by omega)]) rfl
theorem C_isSort {E : f_E} {σ : f_Mem} {a : Int} (ha : -2147483648 ≤ a ∧ a < 2147483648) : FZ E sC mX7_isSort 1 [.int (iI a)] σ (if 0 ≤ a ∧ a ≤ 3 then 1 else 0) (fun u => u = σ) := by
  refine FZ.intro rfl (Nat.le_of_ble_eq_true rfl) (L0 := [some (.int (iI a))]) rfl (fun G hR => ?_)
  refine g_iload_0 hR dX7_isSort_0 (g_iconst hR dX7_isSort_1 (g_iconst hR dX7_isSort_2 (g_callS3P hR dX7_isSort_3 mlX7_105 (C_isWithin ha (by omega) (by omega)) (by decide) (Nat.le_of_ble_eq_true rfl) ?_)))
  exact g_zret hR dX7_isSort_6 rfl (by split <;> simp) rfl rfl
theorem C_isDoing {E : f_E} {σ : f_Mem} {a : Int} (ha : -2147483648 ≤ a ∧ a < 2147483648) : FZ E sC mX7_isDoing 1 [.int (iI a)] σ (if 0 ≤ a ∧ a ≤ 5 then 1 else 0) (fun u => u = σ) := by
  refine FZ.intro rfl (Nat.le_of_ble_eq_true rfl) (L0 := [some (.int (iI a))]) rfl (fun G hR => ?_)
  refine g_iload_0 hR dX7_isDoing_0 (g_iconst hR dX7_isDoing_1 (g_iconst hR dX7_isDoing_2 (g_callS3P hR dX7_isDoing_3 mlX7_105 (C_isWithin ha (by omega) (by omega)) (by decide) (Nat.le_of_ble_eq_true rfl) ?_)))
  exact g_zret hR dX7_isDoing_6 rfl (by split <;> simp) rfl rfl
theorem C_wordOf {E : f_E} {σ : f_Mem} {k d : Nat} : FZ E sC mX7_wordOf 0 [.int (iI k), .int (iI d)] σ (6 * k + d : Nat) (fun u => u = σ) := by
  refine FZ.intro rfl (Nat.le_of_ble_eq_true rfl) (L0 := [some (.int (iI k)), some (.int (iI d))]) rfl (fun G hR => ?_)
  refine g_bipush hR dX7_wordOf_0 (by decide) (g_iload_0 hR dX7_wordOf_2 (g_imul hR dX7_wordOf_3 (g_iload_1 hR dX7_wordOf_4 (g_iadd hR dX7_wordOf_5 ?_))))
  exact g_iret hR dX7_wordOf_6 rfl (by omega) rfl
theorem C_bitCount {E : f_E} {σ : f_Mem} {n : Nat} (hn : n < 32) : FZ E sC mJ6_bitCount_0f7a4 0 [.int (iI n)] σ (pc5 n : Nat) (fun u => u = σ) := by
  refine FZ.intro rfl (Nat.le_of_ble_eq_true rfl) (L0 := [some (.int (iI n))]) rfl (fun G hR => ?_)
  refine g_iload_0 hR dJ6_bitCount_0f7a4_0 (g_iload_0 hR dJ6_bitCount_0f7a4_1 (g_iconst hR dJ6_bitCount_0f7a4_2 (k_iushr hR _ _ _ _ _ _ _ dJ6_bitCount_0f7a4_3 rfl (g_ldcw hR (1431655765) dJ6_bitCount_0f7a4_4 kcJ6_265 (by decide) (k_iand hR _ _ _ _ _ _ dJ6_bitCount_0f7a4_7 (k_isub hR _ _ _ _ _ _ dJ6_bitCount_0f7a4_8 (g_istore_0 hR dJ6_bitCount_0f7a4_9 (g_iload_0 hR dJ6_bitCount_0f7a4_10 (g_ldcw hR (858993459) dJ6_bitCount_0f7a4_11 kcJ6_266 (by decide) (k_iand hR _ _ _ _ _ _ dJ6_bitCount_0f7a4_14 (g_iload_0 hR dJ6_bitCount_0f7a4_15 (g_iconst hR dJ6_bitCount_0f7a4_16 (k_iushr hR _ _ _ _ _ _ _ dJ6_bitCount_0f7a4_17 rfl (g_ldcw hR (858993459) dJ6_bitCount_0f7a4_18 kcJ6_266 (by decide) (k_iand hR _ _ _ _ _ _ dJ6_bitCount_0f7a4_21 (k_iadd hR _ _ _ _ _ _ dJ6_bitCount_0f7a4_22 (g_istore_0 hR dJ6_bitCount_0f7a4_23 (g_iload_0 hR dJ6_bitCount_0f7a4_24 (g_iload_0 hR dJ6_bitCount_0f7a4_25 (g_iconst hR dJ6_bitCount_0f7a4_26 (k_iushr hR _ _ _ _ _ _ _ dJ6_bitCount_0f7a4_27 rfl (k_iadd hR _ _ _ _ _ _ dJ6_bitCount_0f7a4_28 (g_ldcw hR (252645135) dJ6_bitCount_0f7a4_29 kcJ6_267 (by decide) (k_iand hR _ _ _ _ _ _ dJ6_bitCount_0f7a4_32 (g_istore_0 hR dJ6_bitCount_0f7a4_33 (g_iload_0 hR dJ6_bitCount_0f7a4_34 (g_iload_0 hR dJ6_bitCount_0f7a4_35 (g_bipush hR dJ6_bitCount_0f7a4_36 (by decide) (k_iushr hR _ _ _ _ _ _ _ dJ6_bitCount_0f7a4_38 rfl (k_iadd hR _ _ _ _ _ _ dJ6_bitCount_0f7a4_39 (g_istore_0 hR dJ6_bitCount_0f7a4_40 (g_iload_0 hR dJ6_bitCount_0f7a4_41 (g_iload_0 hR dJ6_bitCount_0f7a4_42 (g_bipush hR dJ6_bitCount_0f7a4_43 (by decide) (k_iushr hR _ _ _ _ _ _ _ dJ6_bitCount_0f7a4_45 rfl (k_iadd hR _ _ _ _ _ _ dJ6_bitCount_0f7a4_46 (g_istore_0 hR dJ6_bitCount_0f7a4_47 (g_iload_0 hR dJ6_bitCount_0f7a4_48 (g_bipush hR dJ6_bitCount_0f7a4_49 (by decide) (k_iand hR _ _ _ _ _ _ dJ6_bitCount_0f7a4_51 ?_))))))))))))))))))))))))))))))))))))))))
  exact k_iret hR _ _ _ _ .int dJ6_bitCount_0f7a4_52 rfl rfl ⟨_, rfl, bc_ok n hn, rfl⟩
theorem C_marksApart {E : f_E} {σ : f_Mem} {a b : Nat} (ha : a < 32) (hb : b < 32) : FZ E sC mX7_marksApart 1 [.int (iI a), .int (iI b)] σ (pc5 (a ^^^ b) : Nat) (fun u => u = σ) := by
  refine FZ.intro rfl (Nat.le_of_ble_eq_true rfl) (L0 := [some (.int (iI a)), some (.int (iI b))]) rfl (fun G hR => ?_)
  refine g_iload_0 hR dX7_marksApart_0 (g_iload_1 hR dX7_marksApart_1 (g_ixor hR dX7_marksApart_2 (g_callS1P hR dX7_marksApart_3 mlX7_237 (C_bitCount (Nat.xor_lt_two_pow (n := 5) ha hb)) (by decide) (Nat.le_of_ble_eq_true rfl) ?_)))
  exact g_iret hR dX7_marksApart_6 rfl rfl rfl
theorem C_kinds {E : f_E} {σ : f_Mem} {n : Nat} {L : Les} (h : Lsn σ n L) : FZ E sC mX1_kinds 1 [.ref (f_ad E n)] σ ((Lm L).length : Nat) (fun u => u = σ) := by
  refine FZ.intro rfl (Nat.le_of_ble_eq_true rfl) (L0 := [some (.ref (f_ad E n))]) rfl (fun G hR => ?_)
  refine g_aload_0 hR dX1_kinds_0 (g_getR hR dX1_kinds_1 flX1_14 h.sh.lt h.sh.obj rfl (g_callV0P hR dX1_kinds_4 mlX1_35 h.sh.marks.lt h.sh.marks.obj rfl (Cn_size h.m) (by decide) (Nat.le_of_ble_eq_true rfl) ?_))
  exact g_iret hR dX1_kinds_7 rfl rfl rfl
theorem C_isKind {E : f_E} {σ : f_Mem} {n : Nat} {L : Les} (h : Lsn σ n L) {a : Int} (ha : -2147483648 ≤ a ∧ a < 2147483648) : FZ E sC mX1_isKind 1 [.ref (f_ad E n), .int (iI a)] σ (if 0 ≤ a ∧ a < (Lm L).length then 1 else 0) (fun u => u = σ) := by
  have hle := h.m.lt31
  refine FZ.intro rfl (Nat.le_of_ble_eq_true rfl) (L0 := [some (.ref (f_ad E n)), some (.int (iI a))]) rfl (fun G hR => ?_)
  refine g_iload_1 hR dX1_isKind_0 (g_if_lt hR 19 dX1_isKind_1 (by decide) (by omega) (fun c1 => ?_) (fun c1 => ?_))
  · skip
    refine g_iconst hR dX1_isKind_19 ?_
    exact g_zret hR dX1_isKind_20 rfl (by omega) (by rw [if_neg (by omega)]) rfl
  · skip
    refine g_iload_1 hR dX1_isKind_4 (g_aload_0 hR dX1_isKind_5 (g_getR hR dX1_isKind_6 flX1_14 h.sh.lt h.sh.obj rfl (g_callV0P hR dX1_isKind_9 mlX1_35 h.sh.marks.lt h.sh.marks.obj rfl (Cn_size h.m) (by decide) (Nat.le_of_ble_eq_true rfl) (g_icmp_ge hR 19 dX1_isKind_12 (by decide) (by omega) (by omega) (fun c12 => ?_) (fun c12 => ?_)))))
    · skip
      refine g_iconst hR dX1_isKind_19 ?_
      exact g_zret hR dX1_isKind_20 rfl (by omega) (by rw [if_neg (by omega)]) rfl
    · skip
      refine g_iconst hR dX1_isKind_15 (g_goto hR 20 dX1_isKind_16 (by decide) ?_)
      exact g_zret hR dX1_isKind_20 rfl (by omega) (by rw [if_pos (by omega)]) rfl
theorem C_outcome {E : f_E} {σ : f_Mem} {n : Nat} {L : Les} (h : Lsn σ n L) (ok : LesOK L) {k d : Nat} (hk : k < 2147483648) (hd : d < 6) : FZ E sC mX1_outcome 1 [.ref (f_ad E n), .int (iI k), .int (iI d)] σ (oc L k d : Nat) (fun u => u = σ) := by
  have h1 := ok.r k
  have h2 := ok.p k
  refine FZ.intro rfl (Nat.le_of_ble_eq_true rfl) (L0 := [some (.ref (f_ad E n)), some (.int (iI k)), some (.int (iI d))]) rfl (fun G hR => ?_)
  refine g_iload_2 hR dX1_outcome_0 (g_aload_0 hR dX1_outcome_1 (g_getR hR dX1_outcome_2 flX1_20 h.sh.lt h.sh.obj rfl (g_iload_1 hR dX1_outcome_5 (g_callV1P hR dX1_outcome_6 mlX1_39 h.sh.right.lt h.sh.right.obj rfl (Cn_at h.r hk) (by decide) (Nat.le_of_ble_eq_true rfl) (g_icmp_ne hR 14 dX1_outcome_9 (by decide) (by omega) (by omega) (fun c9 => ?_) (fun c9 => ?_))))))
  · skip
    refine g_aload_0 hR dX1_outcome_14 (g_getR hR dX1_outcome_15 flX1_23 h.sh.lt h.sh.obj rfl (g_iload_1 hR dX1_outcome_18 (g_callV1P hR dX1_outcome_19 mlX1_39 h.sh.spoil.lt h.sh.spoil.obj rfl (Cn_at h.p hk) (by decide) (Nat.le_of_ble_eq_true rfl) (g_iload_2 hR dX1_outcome_22 (g_ishr hR dX1_outcome_23 (by omega) (by omega) (g_iconst hR dX1_outcome_24 (g_iand1 hR dX1_outcome_25 (g_iconst hR dX1_outcome_26 (g_icmp_ne hR 34 dX1_outcome_27 (by decide) (by omega) (by omega) (fun c27 => ?_) (fun c27 => ?_))))))))))
    · skip
      refine g_iconst hR dX1_outcome_34 ?_
      exact g_iret hR dX1_outcome_35 rfl (by unfold oc; rw [if_neg (by omega), if_neg (by omega)]; rfl) rfl
    · skip
      refine g_iconst hR dX1_outcome_30 (g_goto hR 35 dX1_outcome_31 (by decide) ?_)
      exact g_iret hR dX1_outcome_35 rfl (by unfold oc; rw [if_neg (by omega), if_pos (by omega)]; rfl) rfl
  · skip
    refine g_iconst hR dX1_outcome_12 ?_
    exact g_iret hR dX1_outcome_13 rfl (by unfold oc; rw [if_pos (by omega)]; rfl) rfl
theorem C_lost {E : f_E} {σ : f_Mem} {n : Nat} {L : Les} (h : Lsn σ n L) (ok : LesOK L) {k d : Nat} (hk : k < 2147483648) (hd : d < 6) : FZ E sC mX1_lost 2 [.ref (f_ad E n), .int (iI k), .int (iI d)] σ (lo L k d : Nat) (fun u => u = σ) := by
  have h1 := oc_le L k d
  refine FZ.intro rfl (Nat.le_of_ble_eq_true rfl) (L0 := [some (.ref (f_ad E n)), some (.int (iI k)), some (.int (iI d))]) rfl (fun G hR => ?_)
  refine g_aload_0 hR dX1_lost_0 (g_iload_1 hR dX1_lost_1 (g_iload_2 hR dX1_lost_2 (g_callV2P hR dX1_lost_3 mlX1_43 h.sh.lt h.sh.obj rfl (C_outcome h ok hk hd) (by decide) (Nat.le_of_ble_eq_true rfl) (g_iconst hR dX1_lost_6 (g_icmp_ne hR 21 dX1_lost_7 (by decide) (by omega) (by omega) (fun c7 => ?_) (fun c7 => ?_))))))
  · skip
    refine g_iconst hR dX1_lost_21 ?_
    exact g_iret hR dX1_lost_22 rfl (by unfold lo; rw [if_neg (by omega)]; rfl) rfl
  · skip
    refine g_aload_0 hR dX1_lost_10 (g_getR hR dX1_lost_11 flX1_26 h.sh.lt h.sh.obj rfl (g_iload_1 hR dX1_lost_14 (g_callV1P hR dX1_lost_15 mlX1_39 h.sh.worth.lt h.sh.worth.obj rfl (Cn_at h.w hk) (by decide) (Nat.le_of_ble_eq_true rfl) (g_goto hR 22 dX1_lost_18 (by decide) ?_))))
    exact g_iret hR dX1_lost_22 rfl (by unfold lo; rw [if_pos (by omega)]) rfl
