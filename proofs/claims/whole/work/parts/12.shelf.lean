
/-- a shelf: the places' names, the copies on it, the oldest first -/
def Shf (σ : f_Mem) (n k : Nat) (P : List Nat) (l : List Mms) : Prop := isShf n k ∧ σ n 1 = iI l.length ∧ l.length ≤ k ∧ P.length = k ∧ P.Nodup ∧ (∀ x ∈ P, ∃ j, j < k ∧ x = n + 2 + 5 * j) ∧ (∀ i, i < k → σ (n + 1) i = iI (P.getD i 0 : Nat)) ∧ (∀ x ∈ P, MmX σ x) ∧ ∀ (i : Nat) (M : Mms), l[i]? = some M → Mm σ (P.getD i 0) M
section SP
variable {σ u : f_Mem} {n k a b : Nat} {P : List Nat} {l : List Mms}
theorem Shf.sh (h : Shf σ n k P l) : isShf n k := h.1
theorem Shf.size (h : Shf σ n k P l) : σ n 1 = iI l.length := h.2.1
theorem Shf.le (h : Shf σ n k P l) : l.length ≤ k := h.2.2.1
theorem Shf.len (h : Shf σ n k P l) : P.length = k := h.2.2.2.1
theorem Shf.nd (h : Shf σ n k P l) : P.Nodup := h.2.2.2.2.1
theorem Shf.nm (h : Shf σ n k P l) : ∀ x ∈ P, ∃ j, j < k ∧ x = n + 2 + 5 * j := h.2.2.2.2.2.1
theorem Shf.arr (h : Shf σ n k P l) : ∀ i, i < k → σ (n + 1) i = iI (P.getD i 0 : Nat) := h.2.2.2.2.2.2.1
theorem Shf.mx (h : Shf σ n k P l) : ∀ x ∈ P, MmX σ x := h.2.2.2.2.2.2.2.1
theorem Shf.mm (h : Shf σ n k P l) : ∀ (i : Nat) (M : Mms), l[i]? = some M → Mm σ (P.getD i 0) M := h.2.2.2.2.2.2.2.2
theorem Shf.mem (h : Shf σ n k P l) {i : Nat} (hi : i < k) : P.getD i 0 ∈ P := getD_mem (by rw [h.len]; exact hi)
theorem Shf.at (h : Shf σ n k P l) {i : Nat} (hi : i < k) : ∃ j, j < k ∧ P.getD i 0 = n + 2 + 5 * j := h.nm _ (h.mem hi)
theorem Shf.apart (h : Shf σ n k P l) {i j : Nat} (hi : i < k) (hj : j < k) (hij : i ≠ j) : P.getD i 0 + 5 ≤ P.getD j 0 ∨ P.getD j 0 + 5 ≤ P.getD i 0 := by
  obtain ⟨a, ha, ea⟩ := h.at hi
  obtain ⟨b, hb, eb⟩ := h.at hj
  have hne : P.getD i 0 ≠ P.getD j 0 := by
    intro e
    have h1 := getD_some (l := P) (i := i) (by rw [h.len]; exact hi)
    have h2 := getD_some (l := P) (i := j) (by rw [h.len]; exact hj)
    rw [← e] at h2
    exact hij ((List.getElem?_inj (by rw [h.len]; exact hi) h.nd).mp (h1.trans h2.symm))
  omega
theorem Shf.fr (h : Shf σ n k P l) (hf : Fr σ u a b) (hd : n + 1 + 5 * k < a ∨ b ≤ n) : Shf u n k P l := by
  refine ⟨h.sh, by rw [hf n (by omega)]; exact h.size, h.le, h.len, h.nd, h.nm, fun i hi => by rw [hf (n + 1) (by omega)]; exact h.arr i hi, fun x hx => ?_, fun i M hM => ?_⟩
  · obtain ⟨j, hj, e⟩ := h.nm x hx
    exact (h.mx x hx).fr hf (by omega)
  · have hi : i < k := by have := (List.getElem?_eq_some_iff.mp hM).1; have := h.le; omega
    obtain ⟨j, hj, e⟩ := h.at hi
    exact (h.mm i M hM).fr hf (by omega)
theorem Shf.clr (h : Shf σ n k P l) (hf : Fr σ u n (n + 1)) (hs : u n 1 = iI 0) : Shf u n k P [] := by
  refine ⟨h.sh, by rw [hs]; rfl, Nat.zero_le _, h.len, h.nd, h.nm, fun i hi => by rw [hf (n + 1) (by omega)]; exact h.arr i hi, fun x hx => ?_, fun i M hM => by simp at hM⟩
  obtain ⟨j, hj, e⟩ := h.nm x hx
  exact (h.mx x hx).fr hf (by omega)
theorem tail_getD (P : List Nat) (x i : Nat) : (P.tail ++ [x]).getD i 0 = if i + 1 < P.length then P.getD (i + 1) 0 else if i + 1 = P.length ∨ (P.length = 0 ∧ i = 0) then x else 0 := by
  cases P with
  | nil => cases i <;> simp
  | cons y t =>
    simp only [List.tail_cons, List.length_cons, List.getD_cons_succ]
    by_cases h : i < t.length
    · rw [if_pos (by omega)]
      simp [List.getD, List.getElem?_append_left h]
    · rw [if_neg (by omega)]
      by_cases h2 : i = t.length
      · subst h2; simp [List.getD]
      · rw [if_neg (by omega)]
        exact getD_out (by simp; omega)
theorem Shf.rot (h : Shf σ n k P l) (hk : 1 ≤ k) (hf : Fr σ u n (n + 2)) (hs : u n 1 = iI ((l.length - 1 : Nat) : Int)) (ha : ∀ i, i < k → u (n + 1) i = iI ((P.tail ++ [P.getD 0 0]).getD i 0 : Nat)) : Shf u n k (P.tail ++ [P.getD 0 0]) l.tail := by
  have hlen := h.len
  have hle := h.le
  have hmem : ∀ x ∈ P.tail ++ [P.getD 0 0], x ∈ P := fun x hx => by
    rcases List.mem_append.mp hx with q | q
    · exact List.mem_of_mem_tail q
    · rw [List.mem_singleton.mp q]; exact getD_mem (by omega)
  refine ⟨h.sh, by rw [hs, List.length_tail], by rw [List.length_tail]; omega, by simp; omega, ?_, fun x hx => h.nm x (hmem x hx), ha, fun x hx => ?_, fun i M hM => ?_⟩
  · cases hP : P with
    | nil => rw [hP] at hlen; simp at hlen; omega
    | cons y t =>
      have hd := h.nd
      rw [hP] at hd
      have hd2 := List.nodup_cons.mp hd
      rw [List.tail_cons, List.getD_cons_zero]
      exact List.nodup_append.mpr ⟨hd2.2, by simp, fun a ha b hb => by rw [List.mem_singleton.mp hb]; intro e; rw [e] at ha; exact hd2.1 ha⟩
  · obtain ⟨j, hj, e⟩ := h.nm x (hmem x hx)
    exact (h.mx x (hmem x hx)).fr hf (by omega)
  · rw [List.getElem?_tail] at hM
    have hi : i + 1 < k := by have := (List.getElem?_eq_some_iff.mp hM).1; omega
    rw [tail_getD, if_pos (by omega)]
    obtain ⟨j, hj, e⟩ := h.at hi
    exact (h.mm (i + 1) M hM).fr hf (by omega)
end SP

theorem Cs_size {E : f_E} {σ : f_Mem} {n k : Nat} {P : List Nat} {l : List Mms} (h : Shf σ n k P l) : FZ E sC mX6_size 0 [.ref (f_ad E n)] σ (l.length : Nat) (fun u => u = σ) := by
  refine FZ.intro rfl (Nat.le_of_ble_eq_true rfl) (L0 := [some (.ref (f_ad E n))]) rfl (fun G hR => ?_)
  refine g_aload_0 hR dX6_size_0 (g_getI hR _ dX6_size_1 flX6_22 h.sh.lt h.sh.obj rfl h.size ?_)
  exact g_iret hR dX6_size_4 rfl rfl rfl
theorem Cs_isFull {E : f_E} {σ : f_Mem} {n k : Nat} {P : List Nat} {l : List Mms} (h : Shf σ n k P l) : FZ E sC mX6_isFull 0 [.ref (f_ad E n)] σ (if l.length < k then 0 else 1) (fun u => u = σ) := by
  have hle := h.le
  have hcap := h.sh.cap
  have hsh1 := h.sh.1
  refine FZ.intro rfl (Nat.le_of_ble_eq_true rfl) (L0 := [some (.ref (f_ad E n))]) rfl (fun G hR => ?_)
  refine g_aload_0 hR dX6_isFull_0 (g_getI hR _ dX6_isFull_1 flX6_22 h.sh.lt h.sh.obj rfl h.size (g_aload_0 hR dX6_isFull_4 (g_getR hR dX6_isFull_5 flX6_15 h.sh.lt h.sh.obj rfl (g_alenQ hR dX6_isFull_8 h.sh.lt1 h.sh.arr (g_icmp_lt hR 16 dX6_isFull_9 (by decide) (by omega) (by omega) (fun c9 => ?_) (fun c9 => ?_))))))
  · skip
    refine g_iconst hR dX6_isFull_16 ?_
    exact g_zret hR dX6_isFull_17 rfl (by omega) (by rw [if_pos (by omega)]) rfl
  · skip
    refine g_iconst hR dX6_isFull_12 (g_goto hR 17 dX6_isFull_13 (by decide) ?_)
    exact g_zret hR dX6_isFull_17 rfl (by omega) (by rw [if_neg (by omega)]) rfl
theorem Cs_clear {E : f_E} {σ : f_Mem} {n k : Nat} {P : List Nat} {l : List Mms} (h : Shf σ n k P l) : FV E sC mX6_clear 0 [.ref (f_ad E n)] σ (fun u => Shf u n k P [] ∧ Fr σ u n (n + 1)) := by
  refine FV.intro rfl (Nat.le_of_ble_eq_true rfl) (L0 := [some (.ref (f_ad E n))]) rfl (fun G hR => ?_)
  refine g_aload_0 hR dX6_clear_0 (g_iconst hR dX6_clear_1 (g_put hR dX6_clear_2 fpX6_22 h.sh.lt h.sh.obj rfl ?_))
  exact g_vret hR dX6_clear_5 rfl ⟨h.clr Fr.one m_set_at, Fr.one⟩
theorem Cs_placeAt {E : f_E} {σ : f_Mem} {n k : Nat} {P : List Nat} {l : List Mms} (h : Shf σ n k P l) {i : Nat} (hi : i < k) : FR E sC mX6_placeAt 0 [.ref (f_ad E n), .int (iI i)] σ (some (P.getD i 0)) (fun u => u = σ) := by
  have hle := h.le
  have hcap := h.sh.cap
  have hsh1 := h.sh.1
  refine FR.intro rfl (Nat.le_of_ble_eq_true rfl) (L0 := [some (.ref (f_ad E n)), some (.int (iI i))]) rfl (fun G hR => ?_)
  refine g_iload_1 hR dX6_placeAt_0 (g_if_lt hR 22 dX6_placeAt_1 (by decide) (by omega) (fun c1 => ?_) (fun c1 => ?_))
  · skip
    exact absurd c1 (by omega)
  · skip
    refine g_iload_1 hR dX6_placeAt_4 (g_aload_0 hR dX6_placeAt_5 (g_getR hR dX6_placeAt_6 flX6_15 h.sh.lt h.sh.obj rfl (g_alenQ hR dX6_placeAt_9 h.sh.lt1 h.sh.arr (g_icmp_ge hR 22 dX6_placeAt_10 (by decide) (by omega) (by omega) (fun c10 => ?_) (fun c10 => ?_)))))
    · skip
      exact absurd c10 (by omega)
    · skip
      refine g_aload_0 hR dX6_placeAt_13 (g_getR hR dX6_placeAt_14 flX6_15 h.sh.lt h.sh.obj rfl (g_iload_1 hR dX6_placeAt_17 (g_aldQ hR (P.getD i 0) dX6_placeAt_18 h.sh.lt1 h.sh.arr h.sh.cap (by omega) (by obtain ⟨j, hj, e⟩ := h.at hi; have := (h.mx _ (h.mem hi)).sh.1; omega) (h.arr i hi) (g_goto hR 23 dX6_placeAt_19 (by decide) ?_))))
      exact g_aret hR dX6_placeAt_23 rfl rfl rfl
theorem Cs_dropOldest {E : f_E} {σ : f_Mem} {n k : Nat} {P : List Nat} {l : List Mms} (h : Shf σ n k P l) (hk : 1 ≤ k) : FV E sC mX6_dropOldest 1 [.ref (f_ad E n)] σ (fun u => Shf u n k (P.tail ++ [P.getD 0 0]) l.tail ∧ Fr σ u n (n + 2)) := by
  have hle := h.le
  have hcap := h.sh.cap
  have hsh1 := h.sh.1
  have hlen := h.len
  have hm0 := (h.mx _ (h.mem (i := 0) (by omega))).sh.1
  refine FV.intro rfl (Nat.le_of_ble_eq_true rfl) (L0 := [some (.ref (f_ad E n)), none, none]) rfl (fun G hR => ?_)
  refine g_aload_0 hR dX6_dropOldest_0 (g_getR hR dX6_dropOldest_1 flX6_15 h.sh.lt h.sh.obj rfl (g_alenQ hR dX6_dropOldest_4 h.sh.lt1 h.sh.arr (g_if_ne hR 9 dX6_dropOldest_5 (by decide) (by omega) (fun c5 => ?_) (fun c5 => ?_))))
  · skip
    refine g_aload_0 hR dX6_dropOldest_9 (g_getR hR dX6_dropOldest_10 flX6_15 h.sh.lt h.sh.obj rfl (g_iconst hR dX6_dropOldest_13 (g_aldQ hR (P.getD 0 0) dX6_dropOldest_14 h.sh.lt1 h.sh.arr h.sh.cap (by omega) (by omega) (h.arr 0 (by omega)) (g_astore_1 hR dX6_dropOldest_15 rfl (g_iconst hR dX6_dropOldest_16 (g_istore_2 hR dX6_dropOldest_17 rfl ?_))))))
    have loop : ∀ (mm j : Nat) (u : f_Mem), mm = k - j → 1 ≤ j → j ≤ k → (∀ i, i < k → u (n + 1) i = iI (if i + 1 < j then P.getD (i + 1) 0 else P.getD i 0 : Nat)) → Fr σ u (n + 1) (n + 2) → G 18 [some (.ref (f_ad E n)), some (.ref (f_ad E (P.getD 0 0))), some (.int (iI j))] [] u := by
      intro mm
      induction mm using Nat.strongRecOn with
      | ind mm ih =>
        intro j u hm hj hj2 hw hF
        refine g_iload_2 hR dX6_dropOldest_18 (g_aload_0 hR dX6_dropOldest_19 (g_getR hR dX6_dropOldest_20 flX6_15 h.sh.lt h.sh.obj rfl (g_alenQ hR dX6_dropOldest_23 h.sh.lt1 h.sh.arr (g_icmp_ge hR 47 dX6_dropOldest_24 (by decide) (by omega) (by omega) (fun c24 => ?_) (fun c24 => ?_)))))
        · skip
          refine g_aload_0 hR dX6_dropOldest_47 (g_getR hR dX6_dropOldest_48 flX6_15 h.sh.lt h.sh.obj rfl (g_aload_0 hR dX6_dropOldest_51 (g_getR hR dX6_dropOldest_52 flX6_15 h.sh.lt h.sh.obj rfl (g_alenQ hR dX6_dropOldest_55 h.sh.lt1 h.sh.arr (g_iconst hR dX6_dropOldest_56 (g_isub hR dX6_dropOldest_57 (g_aload_1 hR dX6_dropOldest_58 (g_astQ hR dX6_dropOldest_59 h.sh.lt1 h.sh.arr h.sh.cap (by omega) (h.mx _ (h.mem (i := 0) (by omega))).sh.lt (h.mx _ (h.mem (i := 0) (by omega))).sh.obj (by omega) (g_aload_0 hR dX6_dropOldest_60 (g_iconst hR dX6_dropOldest_61 (g_aload_0 hR dX6_dropOldest_62 (g_getI hR _ dX6_dropOldest_63 flX6_22 h.sh.lt h.sh.obj rfl (by rw [m_set_n (by omega), hF n (by omega)]; exact h.size) (g_iconst hR dX6_dropOldest_66 (g_isub hR dX6_dropOldest_67 (g_max hR dX6_dropOldest_68 mlX6_7 (by decide) (Nat.le_of_ble_eq_true rfl) (by omega) (by omega) (g_put hR dX6_dropOldest_71 fpX6_22 h.sh.lt h.sh.obj rfl ?_))))))))))))))))
          have e1 : (max 0 ((l.length : Int) - 1)) = ((l.length - 1 : Nat) : Int) := by omega
          rw [e1]
          have e2 : ((k : Int) - 1).toNat = k - 1 := by omega
          rw [e2]
          exact g_vret hR dX6_dropOldest_74 rfl ⟨h.rot hk (((hF.mono (by omega) (by omega)).tr (Fr.set (by omega))).tr (Fr.set (by omega))) m_set_at (fun i hi => by
      rw [m_set_n (by omega), tail_getD, hlen]
      by_cases q : i = k - 1
      · subst q
        rw [m_set_at, if_neg (by omega), if_pos (by omega)]
      · rw [m_set_j q, hw i hi, if_pos (by omega), if_pos (by omega)]), ((hF.mono (by omega) (by omega)).tr (Fr.set (by omega))).tr (Fr.set (by omega))⟩
        · skip
          refine g_aload_0 hR dX6_dropOldest_27 (g_getR hR dX6_dropOldest_28 flX6_15 h.sh.lt h.sh.obj rfl (g_iload_2 hR dX6_dropOldest_31 (g_iconst hR dX6_dropOldest_32 (g_isub hR dX6_dropOldest_33 (g_aload_0 hR dX6_dropOldest_34 (g_getR hR dX6_dropOldest_35 flX6_15 h.sh.lt h.sh.obj rfl (g_iload_2 hR dX6_dropOldest_38 (g_aldQ hR (P.getD j 0) dX6_dropOldest_39 h.sh.lt1 h.sh.arr h.sh.cap (by omega) (by have := (h.mx _ (h.mem (i := j) (by omega))).sh.1; omega) (by have := hw j (by omega); rw [if_neg (by omega)] at this; exact this) (g_astQ hR dX6_dropOldest_40 h.sh.lt1 h.sh.arr h.sh.cap (by omega) (h.mx _ (h.mem (i := j) (by omega))).sh.lt (h.mx _ (h.mem (i := j) (by omega))).sh.obj (by have := (h.mx _ (h.mem (i := j) (by omega))).sh.1; omega) (g_iinc_2 hR dX6_dropOldest_41 rfl (g_goto hR 18 dX6_dropOldest_44 (by decide) ?_)))))))))))
          refine ih (k - (j + 1)) (by omega) (j + 1) _ rfl (by omega) (by omega) (fun i hi => ?_) (hF.tr (Fr.set (by omega)))
          have e2 : ((j : Int) - 1).toNat = j - 1 := by omega
          rw [e2]
          by_cases q : i = j - 1
          · subst q
            rw [m_set_at, if_pos (by omega), show j - 1 + 1 = j from by omega]
          · rw [m_set_j q, hw i hi]
            by_cases q2 : i + 1 < j
            · rw [if_pos q2, if_pos (by omega)]
            · rw [if_neg q2, if_neg (by omega)]
    exact loop (k - 1) 1 σ rfl (by omega) (by omega) (fun i hi => by rw [if_neg (by omega)]; exact h.arr i hi) Fr.rf
  · skip
    exact absurd c5 (by omega)

theorem Shf.push {σ u v : f_Mem} {n k : Nat} {P : List Nat} {l : List Mms} {M : Mms} (h : Shf σ n k P l) (hl : l.length < k) (hM : Mm u (P.getD l.length 0) M) (hF : Fr σ u (P.getD l.length 0) (P.getD l.length 0 + 5)) (hv : v = m_set u n 1 (iI ((l.length : Int) + 1))) : Shf v n k P (l ++ [M]) ∧ Fr σ v n (n + 2 + 5 * k) := by
  subst hv
  obtain ⟨j, hj, e⟩ := h.at hl
  have F1 : Fr u (m_set u n 1 (iI ((l.length : Int) + 1))) n (n + 1) := Fr.one
  refine ⟨⟨h.sh, by rw [m_set_at]; simp, by simp; omega, h.len, h.nd, h.nm, fun i hi => by rw [m_set_n (by omega), hF (n + 1) (by omega)]; exact h.arr i hi, fun x hx => ?_, fun i N hN => ?_⟩, (hF.mono (by omega) (by omega)).tr (F1.mono (by omega) (by omega))⟩
  · obtain ⟨j2, hj2, e2⟩ := h.nm x hx
    by_cases q : x = P.getD l.length 0
    · rw [q]; exact hM.x.fr F1 (by omega)
    · exact ((h.mx x hx).fr hF (by omega)).fr F1 (by omega)
  · by_cases q : i < l.length
    · rw [List.getElem?_append_left q] at hN
      have ap := h.apart (show i < k from by omega) hl (by omega)
      obtain ⟨j2, hj2, e2⟩ := h.at (show i < k from by omega)
      exact ((h.mm i N hN).fr hF (by omega)).fr F1 (by omega)
    · rw [List.getElem?_append_right (by omega)] at hN
      have q2 : i = l.length := by have := (List.getElem?_eq_some_iff.mp hN).1; simp at this; omega
      subst q2
      simp at hN
      subst hN
      exact hM.fr F1 (by omega)
theorem Shf.pop {σ u v : f_Mem} {n k m : Nat} {P : List Nat} {l : List Mms} (h : Shf σ n k P l) (hl : 1 ≤ l.length) (hF : Fr σ u m (m + 5)) (hd : m + 5 ≤ n ∨ n + 2 + 5 * k ≤ m) (hv : v = m_set u n 1 (iI ((l.length : Int) - 1))) : Shf v n k P l.dropLast := by
  subst hv
  have g := h.fr hF (by omega)
  have F1 : Fr u (m_set u n 1 (iI ((l.length : Int) - 1))) n (n + 1) := Fr.one
  refine ⟨g.sh, by rw [m_set_at, List.length_dropLast]; congr 1; omega, by rw [List.length_dropLast]; have := h.le; omega, g.len, g.nd, g.nm, fun i hi => by rw [m_set_n (by omega)]; exact g.arr i hi, fun x hx => ?_, fun i N hN => ?_⟩
  · obtain ⟨j2, hj2, e2⟩ := h.nm x hx
    exact (g.mx x hx).fr F1 (by omega)
  · have hi : i < l.dropLast.length := (List.getElem?_eq_some_iff.mp hN).1
    rw [List.length_dropLast] at hi
    rw [List.dropLast_eq_take, List.getElem?_take_of_lt hi] at hN
    obtain ⟨j2, hj2, e2⟩ := h.at (show i < k from by have := h.le; omega)
    exact (g.mm i N hN).fr F1 (by omega)

theorem Cs_add {E : f_E} {σ : f_Mem} {n k : Nat} {P : List Nat} {l : List Mms} (h : Shf σ n k P l) (hk : 1 ≤ k) {m : Nat} {M : Mms} (hM : Mm σ m M) (hd : m + 5 ≤ n ∨ n + 2 + 5 * k ≤ m) : FV E sC mX6_add 3 [.ref (f_ad E n), .ref (f_ad E m)] σ (fun u => (∃ P2, Shf u n k P2 ((if l.length < k then l else l.tail) ++ [M])) ∧ Fr σ u n (n + 2 + 5 * k)) := by
  have hle := h.le
  have hcap := h.sh.cap
  have hsh1 := h.sh.1
  refine FV.intro rfl (Nat.le_of_ble_eq_true rfl) (L0 := [some (.ref (f_ad E n)), some (.ref (f_ad E m)), none]) rfl (fun G hR => ?_)
  refine g_aload_0 hR dX6_add_0 (g_callV0P hR dX6_add_1 mlX6_26 h.sh.lt h.sh.obj rfl (Cs_isFull h) (by decide) (Nat.le_of_ble_eq_true rfl) (g_if_eq hR 11 dX6_add_4 (by decide) (by split <;> omega) (fun c4 => ?_) (fun c4 => ?_)))
  · skip
    have hl : l.length < k := by
      by_cases q : l.length < k
      · exact q
      · rw [if_neg q] at c4; omega
    refine g_aload_0 hR dX6_add_11 (g_aload_0 hR dX6_add_12 (g_getI hR _ dX6_add_13 flX6_22 h.sh.lt h.sh.obj rfl h.size (g_callV1R hR dX6_add_16 mlX6_33 h.sh.lt h.sh.obj rfl (Cs_placeAt h (i := l.length) hl) (by decide) (Nat.le_of_ble_eq_true rfl) (fun u1 hu1 => ?_))))
    subst hu1
    obtain ⟨j, hj, e⟩ := h.at hl
    have hmx := h.mx _ (h.mem hl)
    refine g_astore_2 hR dX6_add_19 rfl (g_aload_2 hR dX6_add_20 (g_ifnull hR dX6_add_21 (g_aload_2 hR dX6_add_24 (g_aload_1 hR dX6_add_25 (g_callV1V hR dX6_add_26 mlX6_37 hmx.sh.lt hmx.sh.obj rfl (C_memCopy hmx hM (by omega)) (by decide) (Nat.le_of_ble_eq_true rfl) (fun u2 hu2 => (g_aload_0 hR dX6_add_29 (g_dup hR dX6_add_30 rfl (g_getI hR _ dX6_add_31 flX6_22 h.sh.lt h.sh.obj rfl (by rw [hu2.2 n (by omega)]; exact h.size) (g_iconst hR dX6_add_34 (g_iadd hR dX6_add_35 (g_put hR dX6_add_36 fpX6_22 h.sh.lt h.sh.obj rfl ?_))))))))))))
    obtain ⟨g1, g2⟩ := h.push hl hu2.1 hu2.2 rfl
    exact g_vret hR dX6_add_39 rfl ⟨by rw [if_pos hl]; exact ⟨_, g1⟩, g2⟩
  · skip
    have hl : l.length = k := by
      by_cases q : l.length < k
      · rw [if_pos q] at c4; omega
      · omega
    refine g_aload_0 hR dX6_add_7 (g_callV0V hR dX6_add_8 mlX6_30 h.sh.lt h.sh.obj rfl (Cs_dropOldest h hk) (by decide) (Nat.le_of_ble_eq_true rfl) (fun u1 hu1 => ?_))
    obtain ⟨hu, hFu⟩ := hu1
    have hM := hM.fr hFu (by omega)
    have hlt : l.tail.length < k := by rw [List.length_tail]; omega
    refine g_aload_0 hR dX6_add_11 (g_aload_0 hR dX6_add_12 (g_getI hR _ dX6_add_13 flX6_22 h.sh.lt h.sh.obj rfl hu.size (g_callV1R hR dX6_add_16 mlX6_33 h.sh.lt h.sh.obj rfl (Cs_placeAt hu (i := l.tail.length) hlt) (by decide) (Nat.le_of_ble_eq_true rfl) (fun u2 hu2 => ?_))))
    subst hu2
    obtain ⟨j, hj, e⟩ := hu.at hlt
    have hmx := hu.mx _ (hu.mem hlt)
    refine g_astore_2 hR dX6_add_19 rfl (g_aload_2 hR dX6_add_20 (g_ifnull hR dX6_add_21 (g_aload_2 hR dX6_add_24 (g_aload_1 hR dX6_add_25 (g_callV1V hR dX6_add_26 mlX6_37 hmx.sh.lt hmx.sh.obj rfl (C_memCopy hmx hM (by omega)) (by decide) (Nat.le_of_ble_eq_true rfl) (fun u3 hu3 => (g_aload_0 hR dX6_add_29 (g_dup hR dX6_add_30 rfl (g_getI hR _ dX6_add_31 flX6_22 h.sh.lt h.sh.obj rfl (by rw [hu3.2 n (by omega)]; exact hu.size) (g_iconst hR dX6_add_34 (g_iadd hR dX6_add_35 (g_put hR dX6_add_36 fpX6_22 h.sh.lt h.sh.obj rfl ?_))))))))))))
    obtain ⟨g1, g2⟩ := hu.push hlt hu3.1 hu3.2 rfl
    exact g_vret hR dX6_add_39 rfl ⟨by rw [if_neg (by omega)]; exact ⟨_, g1⟩, (hFu.mono (by omega) (by omega)).tr g2⟩
theorem Cs_takeLast {E : f_E} {σ : f_Mem} {n k : Nat} {P : List Nat} {l : List Mms} (h : Shf σ n k P l) {m : Nat} {M : Mms} (hl : 1 ≤ l.length) (hlast : l[l.length - 1]? = some M) (hX : MmX σ m) (hd : m + 5 ≤ n ∨ n + 2 + 5 * k ≤ m) : FV E sC mX6_takeLast 3 [.ref (f_ad E n), .ref (f_ad E m)] σ (fun u => (∃ P2, Shf u n k P2 l.dropLast) ∧ Mm u m M ∧ ∀ q, (q < m ∨ m + 5 ≤ q) → q ≠ n → u q = σ q) := by
  have hle := h.le
  have hcap := h.sh.cap
  have hsh1 := h.sh.1
  refine FV.intro rfl (Nat.le_of_ble_eq_true rfl) (L0 := [some (.ref (f_ad E n)), some (.ref (f_ad E m)), none]) rfl (fun G hR => ?_)
  refine g_aload_0 hR dX6_takeLast_0 (g_aload_0 hR dX6_takeLast_1 (g_getI hR _ dX6_takeLast_2 flX6_22 h.sh.lt h.sh.obj rfl h.size (g_iconst hR dX6_takeLast_5 (g_isub hR dX6_takeLast_6 (g_callV1R hR dX6_takeLast_7 mlX6_33 h.sh.lt h.sh.obj rfl (show FR E sC mX6_placeAt 0 [.ref (f_ad E n), .int (iI ((l.length : Int) - 1))] σ (some (P.getD (l.length - 1) 0)) _ from (show ((l.length : Int) - 1) = ((l.length - 1 : Nat) : Int) from by omega) ▸ Cs_placeAt h (i := l.length - 1) (by omega)) (by decide) (Nat.le_of_ble_eq_true rfl) (fun u1 hu1 => ?_))))))
  subst hu1
  have hlk : l.length - 1 < k := by omega
  obtain ⟨j, hj, e⟩ := h.at hlk
  have hmx := h.mm _ _ hlast
  refine g_astore_2 hR dX6_takeLast_10 rfl (g_aload_2 hR dX6_takeLast_11 (g_ifnull hR dX6_takeLast_12 (g_aload_1 hR dX6_takeLast_15 (g_aload_2 hR dX6_takeLast_16 (g_callV1V hR dX6_takeLast_17 mlX6_37 hX.sh.lt hX.sh.obj rfl (C_memCopy hX hmx (by omega)) (by decide) (Nat.le_of_ble_eq_true rfl) (fun u2 hu2 => (g_aload_0 hR dX6_takeLast_20 (g_dup hR dX6_takeLast_21 rfl (g_getI hR _ dX6_takeLast_22 flX6_22 h.sh.lt h.sh.obj rfl (by rw [hu2.2 n (by omega)]; exact h.size) (g_iconst hR dX6_takeLast_25 (g_isub hR dX6_takeLast_26 (g_put hR dX6_takeLast_27 fpX6_22 h.sh.lt h.sh.obj rfl ?_))))))))))))
  exact g_vret hR dX6_takeLast_30 rfl ⟨⟨_, h.pop hl hu2.2 hd rfl⟩, hu2.1.fr Fr.one (by omega), fun q h1 h2 => by rw [m_set_n h2]; exact hu2.2 q h1⟩
