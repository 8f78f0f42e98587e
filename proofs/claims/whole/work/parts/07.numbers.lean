
theorem getD_out {l : List Nat} {i : Nat} (h : l.length ≤ i) : l.getD i 0 = 0 := by simp [List.getD, List.getElem?_eq_none h]
theorem getD_some {l : List Nat} {i : Nat} (h : i < l.length) : l[i]? = some (l.getD i 0) := by simp [List.getD, h]
theorem getD_mem {l : List Nat} {i : Nat} (h : i < l.length) : l.getD i 0 ∈ l := List.mem_of_getElem? (getD_some h)
theorem Num.setv {σ : f_Mem} {n cap : Nat} {l : List Nat} (h : Num σ n cap l) {i v : Nat} (hi : i < l.length) : Num (m_set σ (n + 1) i (iI v)) n cap (l.set i v) := by
  refine ⟨h.1, by rw [m_set_n (by omega), List.length_set]; exact h.size, by rw [List.length_set]; exact h.le, fun j w hw => ?_⟩
  by_cases hj : j = i
  · subst hj
    rw [m_set_at]
    rw [List.getElem?_set_self hi] at hw
    cases hw; rfl
  · rw [m_set_j hj]
    rw [List.getElem?_set_ne (Ne.symm hj)] at hw
    exact h.at hw
theorem Num.pushv {σ : f_Mem} {n cap : Nat} {l : List Nat} (h : Num σ n cap l) {v : Nat} (hl : l.length < cap) : Num (m_set (m_set σ (n + 1) l.length (iI v)) n 1 (iI (l.length + 1))) n cap (l ++ [v]) := by
  refine ⟨h.1, by rw [m_set_at]; simp, by simp; omega, fun j w hw => ?_⟩
  · rw [m_set_n (by omega)]
    by_cases hj : j < l.length
    · rw [List.getElem?_append_left hj] at hw
      rw [m_set_j (by omega)]
      exact h.at hw
    · rw [List.getElem?_append_right (by omega)] at hw
      have hj2 : j = l.length := by
        have := (List.getElem?_eq_some_iff.mp hw).1
        simp at this
        omega
      subst hj2
      rw [m_set_at]
      simp at hw
      rw [hw]
theorem Num.trunc {σ : f_Mem} {n cap : Nat} {l : List Nat} (h : Num σ n cap l) {k : Nat} (hk : k ≤ l.length) : Num (m_set σ n 1 (iI k)) n cap (l.take k) := by
  have hle := h.le
  refine ⟨h.1, by rw [m_set_at, List.length_take, Nat.min_eq_left hk], by rw [List.length_take]; omega, fun j w hw => ?_⟩
  rw [m_set_n (by omega)]
  refine h.at ?_
  have hj : j < k := by
    have := (List.getElem?_eq_some_iff.mp hw).1
    rw [List.length_take] at this; omega
  rwa [List.getElem?_take_of_lt hj] at hw
theorem Num.rowv {σ : f_Mem} {n m cap : Nat} {l l2 : List Nat} (h : Num σ n cap l) (h2 : Num σ m cap l2) (hd : m + 1 < n ∨ n + 1 < m) {z : Int} (hz : z = l2.length) : Num (m_row (m_set σ n 1 (iI z)) (n + 1) (fun j => if j < z.toNat then (m_set σ n 1 (iI z)) (m + 1) j else (m_set σ n 1 (iI z)) (n + 1) j)) n cap l2 := by
  subst hz
  refine ⟨h.1, by rw [m_row_n (by omega), m_set_at], h2.le, fun j w hw => ?_⟩
  have hj := (List.getElem?_eq_some_iff.mp hw).1
  rw [m_row_at]
  simp only [Int.toNat_natCast]
  rw [if_pos hj, m_set_n (by omega)]
  exact h2.at hw

theorem Cn_size {E : f_E} {σ : f_Mem} {n cap : Nat} {l : List Nat} (h : Num σ n cap l) : FZ E sC mX3_size 0 [.ref (f_ad E n)] σ (l.length : Nat) (fun u => u = σ) := by
  refine FZ.intro rfl (Nat.le_of_ble_eq_true rfl) (L0 := [some (.ref (f_ad E n))]) rfl (fun G hR => ?_)
  refine g_aload_0 hR dX3_size_0 (g_getI hR _ dX3_size_1 flX3_19 h.sh.lt h.sh.obj rfl h.size ?_)
  exact g_iret hR dX3_size_4 rfl rfl rfl
theorem Cn_isFull {E : f_E} {σ : f_Mem} {n cap : Nat} {l : List Nat} (h : Num σ n cap l) : FZ E sC mX3_isFull 0 [.ref (f_ad E n)] σ (if l.length < cap then 0 else 1) (fun u => u = σ) := by
  have hle := h.le
  have hcap := h.sh.cap
  refine FZ.intro rfl (Nat.le_of_ble_eq_true rfl) (L0 := [some (.ref (f_ad E n))]) rfl (fun G hR => ?_)
  refine g_aload_0 hR dX3_isFull_0 (g_getI hR _ dX3_isFull_1 flX3_19 h.sh.lt h.sh.obj rfl h.size (g_aload_0 hR dX3_isFull_4 (g_getR hR dX3_isFull_5 flX3_13 h.sh.lt h.sh.obj rfl (g_alenI hR dX3_isFull_8 h.sh.lt1 h.sh.arr (g_icmp_lt hR 16 dX3_isFull_9 (by decide) (by omega) (by omega) (fun c9 => ?_) (fun c9 => ?_))))))
  · skip
    refine g_iconst hR dX3_isFull_16 ?_
    exact g_zret hR dX3_isFull_17 rfl (by omega) (by rw [if_pos (by omega)]) rfl
  · skip
    refine g_iconst hR dX3_isFull_12 (g_goto hR 17 dX3_isFull_13 (by decide) ?_)
    exact g_zret hR dX3_isFull_17 rfl (by omega) (by rw [if_neg (by omega)]) rfl
theorem Cn_at {E : f_E} {σ : f_Mem} {n cap : Nat} {l : List Nat} (h : Num σ n cap l) {i : Nat} (hi : i < 2147483648) : FZ E sC mX3_at 0 [.ref (f_ad E n), .int (iI i)] σ (l.getD i 0 : Nat) (fun u => u = σ) := by
  have hle := h.le
  have hcap := h.sh.cap
  refine FZ.intro rfl (Nat.le_of_ble_eq_true rfl) (L0 := [some (.ref (f_ad E n)), some (.int (iI i))]) rfl (fun G hR => ?_)
  refine g_iload_1 hR dX3_at_0 (g_if_lt hR 30 dX3_at_1 (by decide) (by omega) (fun c1 => ?_) (fun c1 => ?_))
  · skip
    refine g_iconst hR dX3_at_30 ?_
    exact g_iret hR dX3_at_31 rfl (by omega) rfl
  · skip
    refine g_iload_1 hR dX3_at_4 (g_aload_0 hR dX3_at_5 (g_getI hR _ dX3_at_6 flX3_19 h.sh.lt h.sh.obj rfl h.size (g_icmp_ge hR 30 dX3_at_9 (by decide) (by omega) (by omega) (fun c9 => ?_) (fun c9 => ?_))))
    · skip
      refine g_iconst hR dX3_at_30 ?_
      exact g_iret hR dX3_at_31 rfl (by rw [getD_out (by omega)]; rfl) rfl
    · skip
      refine g_iload_1 hR dX3_at_12 (g_aload_0 hR dX3_at_13 (g_getR hR dX3_at_14 flX3_13 h.sh.lt h.sh.obj rfl (g_alenI hR dX3_at_17 h.sh.lt1 h.sh.arr (g_icmp_ge hR 30 dX3_at_18 (by decide) (by omega) (by omega) (fun c18 => ?_) (fun c18 => ?_)))))
      · skip
        refine g_iconst hR dX3_at_30 ?_
        exact g_iret hR dX3_at_31 rfl (by omega) rfl
      · skip
        refine g_aload_0 hR dX3_at_21 (g_getR hR dX3_at_22 flX3_13 h.sh.lt h.sh.obj rfl (g_iload_1 hR dX3_at_25 (g_ald hR _ dX3_at_26 h.sh.lt1 h.sh.arr h.sh.cap (by omega) (h.atD (by omega)) (g_goto hR 31 dX3_at_27 (by decide) ?_))))
        exact g_iret hR dX3_at_31 rfl rfl rfl
theorem Cn_put {E : f_E} {σ : f_Mem} {n cap : Nat} {l : List Nat} (h : Num σ n cap l) {i v : Nat} (hi : i < l.length) : FV E sC mX3_put 0 [.ref (f_ad E n), .int (iI i), .int (iI v)] σ (fun u => Num u n cap (l.set i v) ∧ Fr σ u n (n + 2)) := by
  have hle := h.le
  have hcap := h.sh.cap
  refine FV.intro rfl (Nat.le_of_ble_eq_true rfl) (L0 := [some (.ref (f_ad E n)), some (.int (iI i)), some (.int (iI v))]) rfl (fun G hR => ?_)
  refine g_iload_1 hR dX3_put_0 (g_if_lt hR 28 dX3_put_1 (by decide) (by omega) (fun c1 => ?_) (fun c1 => ?_))
  · skip
    exact absurd c1 (by omega)
  · skip
    refine g_iload_1 hR dX3_put_4 (g_aload_0 hR dX3_put_5 (g_getI hR _ dX3_put_6 flX3_19 h.sh.lt h.sh.obj rfl h.size (g_icmp_ge hR 28 dX3_put_9 (by decide) (by omega) (by omega) (fun c9 => ?_) (fun c9 => ?_))))
    · skip
      exact absurd c9 (by omega)
    · skip
      refine g_iload_1 hR dX3_put_12 (g_aload_0 hR dX3_put_13 (g_getR hR dX3_put_14 flX3_13 h.sh.lt h.sh.obj rfl (g_alenI hR dX3_put_17 h.sh.lt1 h.sh.arr (g_icmp_ge hR 28 dX3_put_18 (by decide) (by omega) (by omega) (fun c18 => ?_) (fun c18 => ?_)))))
      · skip
        exact absurd c18 (by omega)
      · skip
        refine g_aload_0 hR dX3_put_21 (g_getR hR dX3_put_22 flX3_13 h.sh.lt h.sh.obj rfl (g_iload_1 hR dX3_put_25 (g_iload_2 hR dX3_put_26 (g_ast hR dX3_put_27 h.sh.lt1 h.sh.arr h.sh.cap (by omega) ?_))))
        exact g_vret hR dX3_put_28 rfl ⟨h.setv hi, Fr.set (by omega)⟩
theorem Cn_add {E : f_E} {σ : f_Mem} {n cap : Nat} {l : List Nat} (h : Num σ n cap l) {v : Nat} (hl : l.length < cap) : FV E sC mX3_add 0 [.ref (f_ad E n), .int (iI v)] σ (fun u => Num u n cap (l ++ [v]) ∧ Fr σ u n (n + 2)) := by
  have hle := h.le
  have hcap := h.sh.cap
  refine FV.intro rfl (Nat.le_of_ble_eq_true rfl) (L0 := [some (.ref (f_ad E n)), some (.int (iI v))]) rfl (fun G hR => ?_)
  refine g_aload_0 hR dX3_add_0 (g_getI hR _ dX3_add_1 flX3_19 h.sh.lt h.sh.obj rfl h.size (g_if_lt hR 39 dX3_add_4 (by decide) (by omega) (fun c4 => ?_) (fun c4 => ?_)))
  · skip
    exact absurd c4 (by omega)
  · skip
    refine g_aload_0 hR dX3_add_7 (g_getI hR _ dX3_add_8 flX3_19 h.sh.lt h.sh.obj rfl h.size (g_aload_0 hR dX3_add_11 (g_getR hR dX3_add_12 flX3_13 h.sh.lt h.sh.obj rfl (g_alenI hR dX3_add_15 h.sh.lt1 h.sh.arr (g_icmp_ge hR 39 dX3_add_16 (by decide) (by omega) (by omega) (fun c16 => ?_) (fun c16 => ?_))))))
    · skip
      exact absurd c16 (by omega)
    · skip
      refine g_aload_0 hR dX3_add_19 (g_getR hR dX3_add_20 flX3_13 h.sh.lt h.sh.obj rfl (g_aload_0 hR dX3_add_23 (g_getI hR _ dX3_add_24 flX3_19 h.sh.lt h.sh.obj rfl h.size (g_iload_1 hR dX3_add_27 (g_ast hR dX3_add_28 h.sh.lt1 h.sh.arr h.sh.cap (by omega) (g_aload_0 hR dX3_add_29 (g_dup hR dX3_add_30 rfl (g_getI hR _ dX3_add_31 flX3_19 h.sh.lt h.sh.obj rfl (by rw [m_set_n (by omega)]; exact h.size) (g_iconst hR dX3_add_34 (g_iadd hR dX3_add_35 (g_put hR dX3_add_36 fpX3_19 h.sh.lt h.sh.obj rfl ?_)))))))))))
      exact g_vret hR dX3_add_39 rfl ⟨h.pushv hl, (Fr.set (n := n + 1) (by omega)).tr (Fr.set (by omega))⟩
theorem Cn_clear {E : f_E} {σ : f_Mem} {n cap : Nat} {l : List Nat} (h : Num σ n cap l) : FV E sC mX3_clear 0 [.ref (f_ad E n)] σ (fun u => Num u n cap [] ∧ Fr σ u n (n + 2)) := by
  refine FV.intro rfl (Nat.le_of_ble_eq_true rfl) (L0 := [some (.ref (f_ad E n))]) rfl (fun G hR => ?_)
  refine g_aload_0 hR dX3_clear_0 (g_iconst hR dX3_clear_1 (g_put hR dX3_clear_2 fpX3_19 h.sh.lt h.sh.obj rfl ?_))
  exact g_vret hR dX3_clear_5 rfl ⟨h.trunc (k := 0) (by omega), Fr.set (by omega)⟩
theorem Cn_fill {E : f_E} {σ : f_Mem} {n cap : Nat} {l : List Nat} (h : Num σ n cap l) {k v : Nat} (hk : k ≤ cap) : FV E sC mX3_fill 1 [.ref (f_ad E n), .int (iI k), .int (iI v)] σ (fun u => Num u n cap (List.replicate k v) ∧ Fr σ u n (n + 2)) := by
  have hle := h.le
  have hcap := h.sh.cap
  refine FV.intro rfl (Nat.le_of_ble_eq_true rfl) (L0 := [some (.ref (f_ad E n)), some (.int (iI k)), some (.int (iI v)), none]) rfl (fun G hR => ?_)
  refine g_aload_0 hR dX3_fill_0 (g_iconst hR dX3_fill_1 (g_put hR dX3_fill_2 fpX3_19 h.sh.lt h.sh.obj rfl (g_iconst hR dX3_fill_5 (g_istore_3 hR dX3_fill_6 rfl ?_))))
  have hN0 : Num (m_set σ n 1 (iI 0)) n cap [] := h.trunc (k := 0) (by omega)
  have loop : ∀ (m j : Nat) (u : f_Mem), m = k - j → j ≤ k → Num u n cap (List.replicate j v) → Fr σ u n (n + 2) → G 7 [some (.ref (f_ad E n)), some (.int (iI (k))), some (.int (iI (v))), some (.int (iI (j)))] [] u := by
    intro m
    induction m using Nat.strongRecOn with
    | ind m ih =>
      intro j u hm hj hN hF
      have hjl : (List.replicate j v).length = j := List.length_replicate
      refine g_iload_3 hR dX3_fill_7 (g_iload_1 hR dX3_fill_8 (g_icmp_ge hR 23 dX3_fill_9 (by decide) (by omega) (by omega) (fun c9 => ?_) (fun c9 => ?_)))
      · skip
        exact g_vret hR dX3_fill_23 rfl ((show j = k from by omega) ▸ ⟨hN, hF⟩)
      · skip
        refine g_aload_0 hR dX3_fill_12 (g_iload_2 hR dX3_fill_13 (g_callV1V hR dX3_fill_14 mlX3_23 h.sh.lt h.sh.obj rfl (Cn_add hN (by rw [hjl]; omega)) (by decide) (Nat.le_of_ble_eq_true rfl) (fun u1 hu1 => (g_iinc_3 hR dX3_fill_17 rfl (g_goto hR 7 dX3_fill_20 (by decide) ?_)))))
        exact ih (k - (j + 1)) (by omega) (j + 1) u1 rfl (by omega) (by rw [List.replicate_succ']; exact hu1.1) (hF.tr hu1.2)
  exact loop k 0 _ (by omega) (by omega) hN0 (Fr.set (by omega))
theorem Cn_dropFirst {E : f_E} {σ : f_Mem} {n cap : Nat} {l : List Nat} (h : Num σ n cap l) : FV E sC mX3_dropFirst 1 [.ref (f_ad E n)] σ (fun u => Num u n cap l.tail ∧ Fr σ u n (n + 2)) := by
  have hle := h.le
  have hcap := h.sh.cap
  refine FV.intro rfl (Nat.le_of_ble_eq_true rfl) (L0 := [some (.ref (f_ad E n)), none]) rfl (fun G hR => ?_)
  refine g_iconst hR dX3_dropFirst_0 (g_istore_1 hR dX3_dropFirst_1 rfl ?_)
  have loop : ∀ (m j : Nat) (u : f_Mem) (w : List Nat), m = l.length - j → 1 ≤ j → j ≤ max 1 l.length → w.length = l.length → (∀ i : Nat, w[i]? = if i + 1 < j then l[i + 1]? else l[i]?) → Num u n cap w → Fr σ u n (n + 2) → G 2 [some (.ref (f_ad E n)), some (.int (iI (j)))] [] u := by
    intro m
    induction m using Nat.strongRecOn with
    | ind m ih =>
      intro j u w hm hj hj2 hwl hw hN hF
      refine g_iload_1 hR dX3_dropFirst_2 (g_aload_0 hR dX3_dropFirst_3 (g_getI hR _ dX3_dropFirst_4 flX3_19 h.sh.lt h.sh.obj rfl hN.size (g_icmp_ge hR 28 dX3_dropFirst_7 (by decide) (by omega) (by omega) (fun c7 => ?_) (fun c7 => ?_))))
      · skip
        refine g_aload_0 hR dX3_dropFirst_28 (g_iconst hR dX3_dropFirst_29 (g_aload_0 hR dX3_dropFirst_30 (g_getI hR _ dX3_dropFirst_31 flX3_19 h.sh.lt h.sh.obj rfl hN.size (g_iconst hR dX3_dropFirst_34 (g_isub hR dX3_dropFirst_35 (g_max hR dX3_dropFirst_36 mlX3_7 (by decide) (Nat.le_of_ble_eq_true rfl) (by omega) (by omega) (g_put hR dX3_dropFirst_39 fpX3_19 h.sh.lt h.sh.obj rfl ?_)))))))
        have e1 : (max 0 ((w.length : Int) - 1)) = ((l.length - 1 : Nat) : Int) := by omega
        rw [e1]
        have e2 : w.take (l.length - 1) = l.tail := by
          apply List.ext_getElem?
          intro i
          rw [List.getElem?_take, List.getElem?_tail]
          by_cases hi : i < l.length - 1
          · rw [if_pos hi, hw i, if_pos (by omega)]
          · rw [if_neg hi, List.getElem?_eq_none (by omega)]
        exact g_vret hR dX3_dropFirst_42 rfl ⟨e2 ▸ hN.trunc (k := l.length - 1) (by omega), hF.tr (Fr.set (by omega))⟩
      · skip
        refine g_aload_0 hR dX3_dropFirst_10 (g_iload_1 hR dX3_dropFirst_11 (g_iconst hR dX3_dropFirst_12 (g_isub hR dX3_dropFirst_13 (g_aload_0 hR dX3_dropFirst_14 (g_iload_1 hR dX3_dropFirst_15 (g_callV1P hR dX3_dropFirst_16 mlX3_27 h.sh.lt h.sh.obj rfl (Cn_at hN (by omega)) (by decide) (Nat.le_of_ble_eq_true rfl) (g_callV2V hR dX3_dropFirst_19 mlX3_31 h.sh.lt h.sh.obj rfl (show FV E sC mX3_put 0 [.ref (f_ad E n), .int (iI ((j : Int) - 1)), .int (iI (w.getD j 0 : Nat))] u _ from (show ((j : Int) - 1) = ((j - 1 : Nat) : Int) from by omega) ▸ Cn_put hN (i := j - 1) (v := w.getD j 0) (by omega)) (by decide) (Nat.le_of_ble_eq_true rfl) (fun u1 hu1 => (g_iinc_1 hR dX3_dropFirst_22 rfl (g_goto hR 2 dX3_dropFirst_25 (by decide) ?_))))))))))
        refine ih (l.length - (j + 1)) (by omega) (j + 1) u1 (w.set (j - 1) (w.getD j 0)) rfl (by omega) (by omega) (by rw [List.length_set]; exact hwl) (fun i => ?_) hu1.1 (hF.tr hu1.2)
        by_cases hi : i = j - 1
        · subst hi
          rw [List.getElem?_set_self (by omega), if_pos (by omega), show j - 1 + 1 = j from by omega]
          have h9 := hw j
          rw [if_neg (by omega)] at h9
          rw [← h9, getD_some (by omega)]
        · rw [List.getElem?_set_ne (Ne.symm hi), hw i]
          by_cases h9 : i + 1 < j
          · rw [if_pos h9, if_pos (by omega)]
          · rw [if_neg h9, if_neg (by omega)]
  exact loop (l.length - 1) 1 σ l rfl (by omega) (by omega) rfl (fun i => by rw [if_neg (by omega)]) h Fr.rf
theorem Cn_copyFrom {E : f_E} {σ : f_Mem} {n m cap : Nat} {l l2 : List Nat} (h : Num σ n cap l) (h2 : Num σ m cap l2) (hd : m + 1 < n ∨ n + 1 < m) : FV E sC mX3_copyFrom 1 [.ref (f_ad E n), .ref (f_ad E m)] σ (fun u => Num u n cap l2 ∧ Fr σ u n (n + 2)) := by
  have hle := h.le
  have hle2 := h2.le
  have hcap := h.sh.cap
  refine FV.intro rfl (Nat.le_of_ble_eq_true rfl) (L0 := [some (.ref (f_ad E n)), some (.ref (f_ad E m))]) rfl (fun G hR => ?_)
  refine g_aload_0 hR dX3_copyFrom_0 (g_iconst hR dX3_copyFrom_1 (g_aload_1 hR dX3_copyFrom_2 (g_getI hR _ dX3_copyFrom_3 flX3_19 h2.sh.lt h2.sh.obj rfl h2.size (g_aload_0 hR dX3_copyFrom_6 (g_getR hR dX3_copyFrom_7 flX3_13 h.sh.lt h.sh.obj rfl (g_alenI hR dX3_copyFrom_10 h.sh.lt1 h.sh.arr (g_aload_1 hR dX3_copyFrom_11 (g_getR hR dX3_copyFrom_12 flX3_13 h2.sh.lt h2.sh.obj rfl (g_alenI hR dX3_copyFrom_15 h2.sh.lt1 h2.sh.arr (g_min hR dX3_copyFrom_16 mlX3_35 (by decide) (Nat.le_of_ble_eq_true rfl) (by omega) (by omega) (g_min hR dX3_copyFrom_19 mlX3_35 (by decide) (Nat.le_of_ble_eq_true rfl) (by omega) (by omega) (g_max hR dX3_copyFrom_22 mlX3_7 (by decide) (Nat.le_of_ble_eq_true rfl) (by omega) (by omega) (g_put hR dX3_copyFrom_25 fpX3_19 h.sh.lt h.sh.obj rfl (g_aload_1 hR dX3_copyFrom_28 (g_getR hR dX3_copyFrom_29 flX3_13 h2.sh.lt h2.sh.obj rfl (g_iconst hR dX3_copyFrom_32 (g_aload_0 hR dX3_copyFrom_33 (g_getR hR dX3_copyFrom_34 flX3_13 h.sh.lt h.sh.obj rfl (g_iconst hR dX3_copyFrom_37 (g_aload_0 hR dX3_copyFrom_38 (g_getI hR _ dX3_copyFrom_39 flX3_19 h.sh.lt h.sh.obj rfl m_set_at (g_copy hR dX3_copyFrom_42 mlX3_38 (by decide) (Nat.le_of_ble_eq_true rfl) h2.sh.lt1 h.sh.lt1 h2.sh.arr h.sh.arr (by omega) ?_))))))))))))))))))))))
  exact g_vret hR dX3_copyFrom_45 rfl ⟨h.rowv h2 hd (by omega), (Fr.set (n := n) (by omega)).tr (Fr.row (n := n + 1) (by omega))⟩
