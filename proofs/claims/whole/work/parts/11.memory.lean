
def allC (L : Les) : Nat := (Lc L).sum
theorem sum_snoc (l : List Nat) (x : Nat) : (l ++ [x]).sum = l.sum + x := by simp
theorem Fr.one {σ : f_Mem} {n j : Nat} {v : Int32} : Fr σ (m_set σ n j v) n (n + 1) := Fr.set ⟨Nat.le_refl _, Nat.lt_succ_self _⟩

theorem C_allChances {E : f_E} {σ : f_Mem} {n : Nat} {L : Les} (h : Lsn σ n L) : FZ E sC mX1_allChances 1 [.ref (f_ad E n)] σ (allC L : Nat) (fun u => u = σ) := by
  have hlt := h.c.le
  refine FZ.intro rfl (Nat.le_of_ble_eq_true rfl) (L0 := [some (.ref (f_ad E n)), none, none]) rfl (fun G hR => ?_)
  refine g_iconst hR dX1_allChances_0 (g_istore_1 hR dX1_allChances_1 rfl (g_iconst hR dX1_allChances_2 (g_istore_2 hR dX1_allChances_3 rfl ?_)))
  have loop : ∀ (mm j : Nat), mm = (Lc L).length - j → j ≤ (Lc L).length → G 4 [some (.ref (f_ad E n)), some (.int (iI (((Lc L).take j).sum))), some (.int (iI (j)))] [] σ := by
    intro mm
    induction mm using Nat.strongRecOn with
    | ind mm ih =>
      intro j hm hj
      refine g_iload_2 hR dX1_allChances_4 (g_aload_0 hR dX1_allChances_5 (g_getR hR dX1_allChances_6 flX1_29 h.sh.lt h.sh.obj rfl (g_callV0P hR dX1_allChances_9 mlX1_35 h.sh.chance.lt h.sh.chance.obj rfl (Cn_size h.c) (by decide) (Nat.le_of_ble_eq_true rfl) (g_icmp_ge hR 32 dX1_allChances_12 (by decide) (by omega) (by omega) (fun c12 => ?_) (fun c12 => ?_)))))
      · skip
        refine g_iload_1 hR dX1_allChances_32 ?_
        exact g_iret hR dX1_allChances_33 rfl (by rw [show j = (Lc L).length from by omega, List.take_length]; rfl) rfl
      · skip
        refine g_iload_1 hR dX1_allChances_15 (g_aload_0 hR dX1_allChances_16 (g_getR hR dX1_allChances_17 flX1_29 h.sh.lt h.sh.obj rfl (g_iload_2 hR dX1_allChances_20 (g_callV1P hR dX1_allChances_21 mlX1_39 h.sh.chance.lt h.sh.chance.obj rfl (Cn_at h.c (i := j) (by omega)) (by decide) (Nat.le_of_ble_eq_true rfl) (g_iadd hR dX1_allChances_24 (g_istore_1 hR dX1_allChances_25 rfl (g_iinc_2 hR dX1_allChances_26 rfl (g_goto hR 4 dX1_allChances_29 (by decide) ?_))))))))
        have h9 := ih ((Lc L).length - (j + 1)) (by omega) (j + 1) rfl (by omega)
        rw [take_snoc (show j < (Lc L).length from by omega), sum_snoc] at h9
        exact h9
  exact loop (Lc L).length 0 (by omega) (by omega)
theorem C_lsnClear {E : f_E} {σ : f_Mem} {n : Nat} {L : Les} (h : Lsn σ n L) : FV E sC mX1_clear 1 [.ref (f_ad E n)] σ (fun u => Lsn u n ([], [], [], [], [], [], 0, 0) ∧ Fr σ u n (n + 13)) := by
  refine FV.intro rfl (Nat.le_of_ble_eq_true rfl) (L0 := [some (.ref (f_ad E n))]) rfl (fun G hR => ?_)
  refine g_aload_0 hR dX1_clear_0 (g_getR hR dX1_clear_1 flX1_14 h.sh.lt h.sh.obj rfl (g_callV0V hR dX1_clear_4 mlX1_47 h.sh.marks.lt h.sh.marks.obj rfl (Cn_clear h.m) (by decide) (Nat.le_of_ble_eq_true rfl) (fun u1 hu1 => ?_)))
  have g1 := h.r.fr hu1.2 (by omega)
  have g2 := h.p.fr hu1.2 (by omega)
  have g3 := h.w.fr hu1.2 (by omega)
  have g4 := h.c.fr hu1.2 (by omega)
  have g5 := h.row.fr hu1.2 (by omega)
  have e0 := hu1.1
  have hF : Fr σ u1 n (n + 13) := hu1.2.mono (by omega) (by omega)
  refine g_aload_0 hR dX1_clear_7 (g_getR hR dX1_clear_8 flX1_20 h.sh.lt h.sh.obj rfl (g_callV0V hR dX1_clear_11 mlX1_47 h.sh.right.lt h.sh.right.obj rfl (Cn_clear g1) (by decide) (Nat.le_of_ble_eq_true rfl) (fun u2 hu2 => ?_)))
  have g2 := g2.fr hu2.2 (by omega)
  have g3 := g3.fr hu2.2 (by omega)
  have g4 := g4.fr hu2.2 (by omega)
  have g5 := g5.fr hu2.2 (by omega)
  have e0 := e0.fr hu2.2 (by omega)
  have e1 := hu2.1
  have hF : Fr σ u2 n (n + 13) := hF.tr (hu2.2.mono (by omega) (by omega))
  refine g_aload_0 hR dX1_clear_14 (g_getR hR dX1_clear_15 flX1_23 h.sh.lt h.sh.obj rfl (g_callV0V hR dX1_clear_18 mlX1_47 h.sh.spoil.lt h.sh.spoil.obj rfl (Cn_clear g2) (by decide) (Nat.le_of_ble_eq_true rfl) (fun u3 hu3 => ?_)))
  have g3 := g3.fr hu3.2 (by omega)
  have g4 := g4.fr hu3.2 (by omega)
  have g5 := g5.fr hu3.2 (by omega)
  have e0 := e0.fr hu3.2 (by omega)
  have e1 := e1.fr hu3.2 (by omega)
  have e2 := hu3.1
  have hF : Fr σ u3 n (n + 13) := hF.tr (hu3.2.mono (by omega) (by omega))
  refine g_aload_0 hR dX1_clear_21 (g_getR hR dX1_clear_22 flX1_26 h.sh.lt h.sh.obj rfl (g_callV0V hR dX1_clear_25 mlX1_47 h.sh.worth.lt h.sh.worth.obj rfl (Cn_clear g3) (by decide) (Nat.le_of_ble_eq_true rfl) (fun u4 hu4 => ?_)))
  have g4 := g4.fr hu4.2 (by omega)
  have g5 := g5.fr hu4.2 (by omega)
  have e0 := e0.fr hu4.2 (by omega)
  have e1 := e1.fr hu4.2 (by omega)
  have e2 := e2.fr hu4.2 (by omega)
  have e3 := hu4.1
  have hF : Fr σ u4 n (n + 13) := hF.tr (hu4.2.mono (by omega) (by omega))
  refine g_aload_0 hR dX1_clear_28 (g_getR hR dX1_clear_29 flX1_29 h.sh.lt h.sh.obj rfl (g_callV0V hR dX1_clear_32 mlX1_47 h.sh.chance.lt h.sh.chance.obj rfl (Cn_clear g4) (by decide) (Nat.le_of_ble_eq_true rfl) (fun u5 hu5 => ?_)))
  have g5 := g5.fr hu5.2 (by omega)
  have e0 := e0.fr hu5.2 (by omega)
  have e1 := e1.fr hu5.2 (by omega)
  have e2 := e2.fr hu5.2 (by omega)
  have e3 := e3.fr hu5.2 (by omega)
  have e4 := hu5.1
  have hF : Fr σ u5 n (n + 13) := hF.tr (hu5.2.mono (by omega) (by omega))
  refine g_aload_0 hR dX1_clear_35 (g_getR hR dX1_clear_36 flX1_32 h.sh.lt h.sh.obj rfl (g_callV0V hR dX1_clear_39 mlX1_47 h.sh.row.lt h.sh.row.obj rfl (Cn_clear g5) (by decide) (Nat.le_of_ble_eq_true rfl) (fun u6 hu6 => ?_)))
  have e0 := e0.fr hu6.2 (by omega)
  have e1 := e1.fr hu6.2 (by omega)
  have e2 := e2.fr hu6.2 (by omega)
  have e3 := e3.fr hu6.2 (by omega)
  have e4 := e4.fr hu6.2 (by omega)
  have e5 := hu6.1
  have hF : Fr σ u6 n (n + 13) := hF.tr (hu6.2.mono (by omega) (by omega))
  refine g_aload_0 hR dX1_clear_42 (g_iconst hR dX1_clear_43 (g_put hR dX1_clear_44 fpX1_50 h.sh.lt h.sh.obj rfl (g_aload_0 hR dX1_clear_47 (g_iconst hR dX1_clear_48 (g_put hR dX1_clear_49 fpX1_54 h.sh.lt h.sh.obj rfl ?_)))))
  have f6 : Fr u6 (m_set (m_set u6 n 6 (iI 0)) n 7 (iI 0)) n (n + 1) := Fr.one.tr Fr.one
  exact g_vret hR dX1_clear_52 rfl ⟨⟨h.sh, e0.fr f6 (by omega), e1.fr f6 (by omega), e2.fr f6 (by omega), e3.fr f6 (by omega), e4.fr f6 (by omega), e5.fr f6 (by omega), by rw [m_set_j (by omega), m_set_at]; rfl, by rw [m_set_at]; rfl⟩, hF.tr (f6.mono (by omega) (by omega))⟩
theorem C_lsnCopy {E : f_E} {σ : f_Mem} {n : Nat} {m : Nat} {L L2 : Les} (h : Lsn σ n L) (h2 : Lsn σ m L2) (hd : m + 13 ≤ n ∨ n + 13 ≤ m) : FV E sC mX1_copyFrom 2 [.ref (f_ad E n), .ref (f_ad E m)] σ (fun u => Lsn u n L2 ∧ Fr σ u n (n + 13)) := by
  refine FV.intro rfl (Nat.le_of_ble_eq_true rfl) (L0 := [some (.ref (f_ad E n)), some (.ref (f_ad E m))]) rfl (fun G hR => ?_)
  refine g_aload_0 hR dX1_copyFrom_0 (g_getR hR dX1_copyFrom_1 flX1_14 h.sh.lt h.sh.obj rfl (g_aload_1 hR dX1_copyFrom_4 (g_getR hR dX1_copyFrom_5 flX1_14 h2.sh.lt h2.sh.obj rfl (g_callV1V hR dX1_copyFrom_8 mlX1_57 h.sh.marks.lt h.sh.marks.obj rfl (Cn_copyFrom h.m h2.m (by omega)) (by decide) (Nat.le_of_ble_eq_true rfl) (fun u1 hu1 => ?_)))))
  have g1 := h.r.fr hu1.2 (by omega)
  have g2 := h.p.fr hu1.2 (by omega)
  have g3 := h.w.fr hu1.2 (by omega)
  have g4 := h.c.fr hu1.2 (by omega)
  have g5 := h.row.fr hu1.2 (by omega)
  have k2 := h2.fr hu1.2 (by omega)
  have e0 := hu1.1
  have hF : Fr σ u1 n (n + 13) := hu1.2.mono (by omega) (by omega)
  refine g_aload_0 hR dX1_copyFrom_11 (g_getR hR dX1_copyFrom_12 flX1_20 h.sh.lt h.sh.obj rfl (g_aload_1 hR dX1_copyFrom_15 (g_getR hR dX1_copyFrom_16 flX1_20 h2.sh.lt h2.sh.obj rfl (g_callV1V hR dX1_copyFrom_19 mlX1_57 h.sh.right.lt h.sh.right.obj rfl (Cn_copyFrom g1 k2.r (by omega)) (by decide) (Nat.le_of_ble_eq_true rfl) (fun u2 hu2 => ?_)))))
  have g2 := g2.fr hu2.2 (by omega)
  have g3 := g3.fr hu2.2 (by omega)
  have g4 := g4.fr hu2.2 (by omega)
  have g5 := g5.fr hu2.2 (by omega)
  have k2 := k2.fr hu2.2 (by omega)
  have e0 := e0.fr hu2.2 (by omega)
  have e1 := hu2.1
  have hF : Fr σ u2 n (n + 13) := hF.tr (hu2.2.mono (by omega) (by omega))
  refine g_aload_0 hR dX1_copyFrom_22 (g_getR hR dX1_copyFrom_23 flX1_23 h.sh.lt h.sh.obj rfl (g_aload_1 hR dX1_copyFrom_26 (g_getR hR dX1_copyFrom_27 flX1_23 h2.sh.lt h2.sh.obj rfl (g_callV1V hR dX1_copyFrom_30 mlX1_57 h.sh.spoil.lt h.sh.spoil.obj rfl (Cn_copyFrom g2 k2.p (by omega)) (by decide) (Nat.le_of_ble_eq_true rfl) (fun u3 hu3 => ?_)))))
  have g3 := g3.fr hu3.2 (by omega)
  have g4 := g4.fr hu3.2 (by omega)
  have g5 := g5.fr hu3.2 (by omega)
  have k2 := k2.fr hu3.2 (by omega)
  have e0 := e0.fr hu3.2 (by omega)
  have e1 := e1.fr hu3.2 (by omega)
  have e2 := hu3.1
  have hF : Fr σ u3 n (n + 13) := hF.tr (hu3.2.mono (by omega) (by omega))
  refine g_aload_0 hR dX1_copyFrom_33 (g_getR hR dX1_copyFrom_34 flX1_26 h.sh.lt h.sh.obj rfl (g_aload_1 hR dX1_copyFrom_37 (g_getR hR dX1_copyFrom_38 flX1_26 h2.sh.lt h2.sh.obj rfl (g_callV1V hR dX1_copyFrom_41 mlX1_57 h.sh.worth.lt h.sh.worth.obj rfl (Cn_copyFrom g3 k2.w (by omega)) (by decide) (Nat.le_of_ble_eq_true rfl) (fun u4 hu4 => ?_)))))
  have g4 := g4.fr hu4.2 (by omega)
  have g5 := g5.fr hu4.2 (by omega)
  have k2 := k2.fr hu4.2 (by omega)
  have e0 := e0.fr hu4.2 (by omega)
  have e1 := e1.fr hu4.2 (by omega)
  have e2 := e2.fr hu4.2 (by omega)
  have e3 := hu4.1
  have hF : Fr σ u4 n (n + 13) := hF.tr (hu4.2.mono (by omega) (by omega))
  refine g_aload_0 hR dX1_copyFrom_44 (g_getR hR dX1_copyFrom_45 flX1_29 h.sh.lt h.sh.obj rfl (g_aload_1 hR dX1_copyFrom_48 (g_getR hR dX1_copyFrom_49 flX1_29 h2.sh.lt h2.sh.obj rfl (g_callV1V hR dX1_copyFrom_52 mlX1_57 h.sh.chance.lt h.sh.chance.obj rfl (Cn_copyFrom g4 k2.c (by omega)) (by decide) (Nat.le_of_ble_eq_true rfl) (fun u5 hu5 => ?_)))))
  have g5 := g5.fr hu5.2 (by omega)
  have k2 := k2.fr hu5.2 (by omega)
  have e0 := e0.fr hu5.2 (by omega)
  have e1 := e1.fr hu5.2 (by omega)
  have e2 := e2.fr hu5.2 (by omega)
  have e3 := e3.fr hu5.2 (by omega)
  have e4 := hu5.1
  have hF : Fr σ u5 n (n + 13) := hF.tr (hu5.2.mono (by omega) (by omega))
  refine g_aload_0 hR dX1_copyFrom_55 (g_getR hR dX1_copyFrom_56 flX1_32 h.sh.lt h.sh.obj rfl (g_aload_1 hR dX1_copyFrom_59 (g_getR hR dX1_copyFrom_60 flX1_32 h2.sh.lt h2.sh.obj rfl (g_callV1V hR dX1_copyFrom_63 mlX1_57 h.sh.row.lt h.sh.row.obj rfl (Cn_copyFrom g5 k2.row (by omega)) (by decide) (Nat.le_of_ble_eq_true rfl) (fun u6 hu6 => ?_)))))
  have k2 := k2.fr hu6.2 (by omega)
  have e0 := e0.fr hu6.2 (by omega)
  have e1 := e1.fr hu6.2 (by omega)
  have e2 := e2.fr hu6.2 (by omega)
  have e3 := e3.fr hu6.2 (by omega)
  have e4 := e4.fr hu6.2 (by omega)
  have e5 := hu6.1
  have hF : Fr σ u6 n (n + 13) := hF.tr (hu6.2.mono (by omega) (by omega))
  refine g_aload_0 hR dX1_copyFrom_66 (g_aload_1 hR dX1_copyFrom_67 (g_getI hR _ dX1_copyFrom_68 flX1_50 h2.sh.lt h2.sh.obj rfl k2.sort (g_put hR dX1_copyFrom_71 fpX1_50 h.sh.lt h.sh.obj rfl (g_aload_0 hR dX1_copyFrom_74 (g_aload_1 hR dX1_copyFrom_75 (g_getI hR _ dX1_copyFrom_76 flX1_54 h2.sh.lt h2.sh.obj rfl (by rw [m_set_n (by omega)]; exact k2.first) (g_put hR dX1_copyFrom_79 fpX1_54 h.sh.lt h.sh.obj rfl ?_)))))))
  have f6 : Fr u6 (m_set (m_set u6 n 6 (iI (Lsort L2))) n 7 (iI (Lfirst L2))) n (n + 1) := Fr.one.tr Fr.one
  exact g_vret hR dX1_copyFrom_82 rfl ⟨⟨h.sh, e0.fr f6 (by omega), e1.fr f6 (by omega), e2.fr f6 (by omega), e3.fr f6 (by omega), e4.fr f6 (by omega), e5.fr f6 (by omega), by rw [m_set_j (by omega), m_set_at], by rw [m_set_at]⟩, hF.tr (f6.mono (by omega) (by omega))⟩

/-- words heard (the newest first), how often each kind was handed, days, lost, good -/
abbrev Mms : Type := List Nat × List Nat × Nat × Nat × Nat
def MmX (σ : f_Mem) (n : Nat) : Prop := isMem n ∧ (∃ l, Num σ (n + 1) 40 l) ∧ ∃ l, Num σ (n + 3) 6 l
def Mm (σ : f_Mem) (n : Nat) (M : Mms) : Prop := isMem n ∧ Num σ (n + 1) 40 M.1.reverse ∧ Num σ (n + 3) 6 M.2.1 ∧ M.2.1.length = 6 ∧ σ n 2 = iI M.2.2.1 ∧ σ n 3 = iI M.2.2.2.1 ∧ σ n 4 = iI M.2.2.2.2
section MP
variable {σ u : f_Mem} {n a b : Nat} {M : Mms}
theorem MmX.sh (h : MmX σ n) : isMem n := h.1
theorem Mm.sh (h : Mm σ n M) : isMem n := h.1
theorem Mm.wd (h : Mm σ n M) : Num σ (n + 1) 40 M.1.reverse := h.2.1
theorem Mm.hd (h : Mm σ n M) : Num σ (n + 3) 6 M.2.1 := h.2.2.1
theorem Mm.h6 (h : Mm σ n M) : M.2.1.length = 6 := h.2.2.2.1
theorem Mm.days (h : Mm σ n M) : σ n 2 = iI M.2.2.1 := h.2.2.2.2.1
theorem Mm.lost (h : Mm σ n M) : σ n 3 = iI M.2.2.2.1 := h.2.2.2.2.2.1
theorem Mm.good (h : Mm σ n M) : σ n 4 = iI M.2.2.2.2 := h.2.2.2.2.2.2
theorem Mm.le (h : Mm σ n M) : M.1.length ≤ 40 := by have := h.wd.le; rwa [List.length_reverse] at this
theorem Mm.x (h : Mm σ n M) : MmX σ n := ⟨h.sh, ⟨_, h.wd⟩, ⟨_, h.hd⟩⟩
theorem Mm.fr (h : Mm σ n M) (hf : Fr σ u a b) (hd : n + 4 < a ∨ b ≤ n) : Mm u n M := ⟨h.sh, h.wd.fr hf (by omega), h.hd.fr hf (by omega), h.h6, by rw [hf n (by omega)]; exact h.days, by rw [hf n (by omega)]; exact h.lost, by rw [hf n (by omega)]; exact h.good⟩
theorem MmX.fr (h : MmX σ n) (hf : Fr σ u a b) (hd : n + 4 < a ∨ b ≤ n) : MmX u n := by
  obtain ⟨h1, ⟨l1, h2⟩, ⟨l2, h3⟩⟩ := h
  exact ⟨h1, ⟨l1, h2.fr hf (by omega)⟩, ⟨l2, h3.fr hf (by omega)⟩⟩
end MP
def wordM (M : Mms) (w : Nat) : Mms := ((w :: M.1).take 40, M.2.1, M.2.2.1, M.2.2.2.1, M.2.2.2.2)
def dayM (L : Les) (M : Mms) (k d : Nat) : Mms := (if oc L k d = 0 then M.1 else ((6 * k + (Lr L).getD k 0) :: M.1).take 40, M.2.1.set k (M.2.1.getD k 0 + 1), M.2.2.1 + 1, M.2.2.2.1 + lo L k d, M.2.2.2.2 + if oc L k d = 0 then 1 else 0)
theorem take40_full {w : Nat} {ws : List Nat} (h : ws.length = 40) : ws.reverse.tail ++ [w] = ((w :: ws).take 40).reverse := by
  have : (w :: ws).take 40 = w :: ws.dropLast := by rw [List.take_succ_cons, List.dropLast_eq_take, h]
  rw [this, List.reverse_cons, List.tail_reverse]
theorem take40_less {w : Nat} {ws : List Nat} (h : ws.length < 40) : ws.reverse ++ [w] = ((w :: ws).take 40).reverse := by
  rw [List.take_of_length_le (by simp; omega), List.reverse_cons]

theorem C_memClear {E : f_E} {σ : f_Mem} {n : Nat} (h : MmX σ n) : FV E sC mX2_clear 2 [.ref (f_ad E n)] σ (fun u => Mm u n ([], List.replicate 6 0, 0, 0, 0) ∧ Fr σ u n (n + 5)) := by
  refine FV.intro rfl (Nat.le_of_ble_eq_true rfl) (L0 := [some (.ref (f_ad E n))]) rfl (fun G hR => ?_)
  obtain ⟨hsh, ⟨l1, h1⟩, ⟨l2, h2⟩⟩ := h
  refine g_aload_0 hR dX2_clear_0 (g_getR hR dX2_clear_1 flX2_14 hsh.lt hsh.obj rfl (g_callV0V hR dX2_clear_4 mlX2_27 hsh.words.lt hsh.words.obj rfl (Cn_clear h1) (by decide) (Nat.le_of_ble_eq_true rfl) (fun u1 hu1 => ?_)))
  have h2 := h2.fr hu1.2 (by omega)
  refine g_aload_0 hR dX2_clear_7 (g_getR hR dX2_clear_8 flX2_20 hsh.lt hsh.obj rfl (g_bipush hR dX2_clear_11 (by decide) (g_iconst hR dX2_clear_13 (g_callV2V hR dX2_clear_14 mlX2_23 hsh.handed.lt hsh.handed.obj rfl (Cn_fill h2 (k := 6) (v := 0) (by omega)) (by decide) (Nat.le_of_ble_eq_true rfl) (fun u2 hu2 => ?_)))))
  have k1 := hu1.1.fr hu2.2 (by omega)
  refine g_aload_0 hR dX2_clear_17 (g_iconst hR dX2_clear_18 (g_put hR dX2_clear_19 fpX2_30 hsh.lt hsh.obj rfl (g_aload_0 hR dX2_clear_22 (g_iconst hR dX2_clear_23 (g_put hR dX2_clear_24 fpX2_34 hsh.lt hsh.obj rfl (g_aload_0 hR dX2_clear_27 (g_iconst hR dX2_clear_28 (g_put hR dX2_clear_29 fpX2_37 hsh.lt hsh.obj rfl ?_))))))))
  have f6 : Fr u2 (m_set (m_set (m_set u2 n 2 (iI 0)) n 3 (iI 0)) n 4 (iI 0)) n (n + 1) := (Fr.one.tr Fr.one).tr Fr.one
  exact g_vret hR dX2_clear_32 rfl ⟨⟨hsh, k1.fr f6 (by omega), hu2.1.fr f6 (by omega), rfl, by simp [m_set, m_row, upd], by simp [m_set, m_row, upd], by simp [m_set, m_row, upd]⟩, ((hu1.2.mono (by omega) (by omega)).tr (hu2.2.mono (by omega) (by omega))).tr (f6.mono (by omega) (by omega))⟩
theorem C_addWord {E : f_E} {σ : f_Mem} {n : Nat} {M : Mms} (h : Mm σ n M) {k d : Nat} : FV E sC mX2_addWord 2 [.ref (f_ad E n), .int (iI k), .int (iI d)] σ (fun u => Mm u n (wordM M (6 * k + d)) ∧ Fr σ u (n + 1) (n + 3)) := by
  have hle := h.le
  refine FV.intro rfl (Nat.le_of_ble_eq_true rfl) (L0 := [some (.ref (f_ad E n)), some (.int (iI k)), some (.int (iI d))]) rfl (fun G hR => ?_)
  refine g_aload_0 hR dX2_addWord_0 (g_getR hR dX2_addWord_1 flX2_14 h.sh.lt h.sh.obj rfl (g_callV0P hR dX2_addWord_4 mlX2_40 h.sh.words.lt h.sh.words.obj rfl (Cn_isFull h.wd) (by decide) (Nat.le_of_ble_eq_true rfl) (g_if_eq hR 17 dX2_addWord_7 (by decide) (by split <;> omega) (fun c7 => ?_) (fun c7 => ?_))))
  · skip
    have hl : M.1.length < 40 := by
      by_cases q : M.1.reverse.length < 40
      · rwa [List.length_reverse] at q
      · rw [if_neg q] at c7; omega
    refine g_aload_0 hR dX2_addWord_17 (g_getR hR dX2_addWord_18 flX2_14 h.sh.lt h.sh.obj rfl (g_iload_1 hR dX2_addWord_21 (g_iload_2 hR dX2_addWord_22 (g_callS2P hR dX2_addWord_23 mlX2_47 (C_wordOf (k := k) (d := d)) (by decide) (Nat.le_of_ble_eq_true rfl) (g_callV1V hR dX2_addWord_26 mlX2_51 h.sh.words.lt h.sh.words.obj rfl (Cn_add h.wd (v := 6 * k + d) (by rw [List.length_reverse]; omega)) (by decide) (Nat.le_of_ble_eq_true rfl) (fun u1 hu1 => ?_))))))
    have k1 := hu1.1
    rw [take40_less hl] at k1
    have hn := hu1.2 n (by omega)
    exact g_vret hR dX2_addWord_29 rfl ⟨⟨h.sh, k1, h.hd.fr hu1.2 (by omega), h.h6, by rw [hn]; exact h.days, by rw [hn]; exact h.lost, by rw [hn]; exact h.good⟩, hu1.2⟩
  · skip
    have hl : M.1.length = 40 := by
      by_cases q : M.1.reverse.length < 40
      · rw [if_pos q] at c7; omega
      · rw [List.length_reverse] at q; omega
    refine g_aload_0 hR dX2_addWord_10 (g_getR hR dX2_addWord_11 flX2_14 h.sh.lt h.sh.obj rfl (g_callV0V hR dX2_addWord_14 mlX2_44 h.sh.words.lt h.sh.words.obj rfl (Cn_dropFirst h.wd) (by decide) (Nat.le_of_ble_eq_true rfl) (fun u1 hu1 => (g_aload_0 hR dX2_addWord_17 (g_getR hR dX2_addWord_18 flX2_14 h.sh.lt h.sh.obj rfl (g_iload_1 hR dX2_addWord_21 (g_iload_2 hR dX2_addWord_22 (g_callS2P hR dX2_addWord_23 mlX2_47 (C_wordOf (k := k) (d := d)) (by decide) (Nat.le_of_ble_eq_true rfl) (g_callV1V hR dX2_addWord_26 mlX2_51 h.sh.words.lt h.sh.words.obj rfl (Cn_add hu1.1 (v := 6 * k + d) (by rw [List.length_tail, List.length_reverse]; omega)) (by decide) (Nat.le_of_ble_eq_true rfl) (fun u2 hu2 => ?_))))))))))
    have k1 := hu2.1
    rw [take40_full hl] at k1
    have hF := hu1.2.tr hu2.2
    have hn := hF n (by omega)
    exact g_vret hR dX2_addWord_29 rfl ⟨⟨h.sh, k1, h.hd.fr hF (by omega), h.h6, by rw [hn]; exact h.days, by rw [hn]; exact h.lost, by rw [hn]; exact h.good⟩, hF⟩

theorem Fr.tr2 {σ u v : f_Mem} {a b c d : Nat} (h1 : Fr σ u a b) (h2 : Fr u v c d) : Fr σ v (min a c) (max b d) := fun k hk => (h2 k (by omega)).trans (h1 k (by omega))

theorem C_addDay {E : f_E} {σ : f_Mem} {n : Nat} {m : Nat} {M : Mms} {L : Les} (h : Mm σ n M) (hL : Lsn σ m L) (ok : LesOK L) {k d : Nat} (hk : k < 6) (hd : d < 6) (hdis : m + 13 ≤ n ∨ n + 5 ≤ m) : FV E sC mX2_addDay 3 [.ref (f_ad E n), .ref (f_ad E m), .int (iI k), .int (iI d)] σ (fun u => Mm u n (dayM L M k d) ∧ Fr σ u n (n + 5)) := by
  have ho := oc_le L k d
  refine FV.intro rfl (Nat.le_of_ble_eq_true rfl) (L0 := [some (.ref (f_ad E n)), some (.ref (f_ad E m)), some (.int (iI k)), some (.int (iI d))]) rfl (fun G hR => ?_)
  refine g_aload_0 hR dX2_addDay_0 (g_dup hR dX2_addDay_1 rfl (g_getI hR _ dX2_addDay_2 flX2_30 h.sh.lt h.sh.obj rfl h.days (g_iconst hR dX2_addDay_5 (g_iadd hR dX2_addDay_6 (g_put hR dX2_addDay_7 fpX2_30 h.sh.lt h.sh.obj rfl (g_aload_0 hR dX2_addDay_10 (g_getR hR dX2_addDay_11 flX2_20 h.sh.lt h.sh.obj rfl (g_iload_2 hR dX2_addDay_14 (g_aload_0 hR dX2_addDay_15 (g_getR hR dX2_addDay_16 flX2_20 h.sh.lt h.sh.obj rfl (g_iload_2 hR dX2_addDay_19 (g_callV1P hR dX2_addDay_20 mlX2_54 h.sh.handed.lt h.sh.handed.obj rfl (Cn_at (h.hd.fr Fr.one (by omega)) (i := k) (by omega)) (by decide) (Nat.le_of_ble_eq_true rfl) (g_iconst hR dX2_addDay_23 (g_iadd hR dX2_addDay_24 (g_callV2V hR dX2_addDay_25 mlX2_58 h.sh.handed.lt h.sh.handed.obj rfl (Cn_put (h.hd.fr Fr.one (by omega)) (i := k) (v := M.2.1.getD k 0 + 1) (by rw [h.h6]; omega)) (by decide) (Nat.le_of_ble_eq_true rfl) (fun u1 hu1 => ?_))))))))))))))))
  have hF1 : Fr σ u1 n (n + 5) := (Fr.one.mono (by omega) (by omega)).tr (hu1.2.mono (by omega) (by omega))
  have hL1 := hL.fr hF1 (by omega)
  have hn1 := hu1.2 n (by omega)
  refine g_aload_0 hR dX2_addDay_28 (g_dup hR dX2_addDay_29 rfl (g_getI hR _ dX2_addDay_30 flX2_34 h.sh.lt h.sh.obj rfl (by rw [hn1, m_set_j (by omega)]; exact h.lost) (g_aload_1 hR dX2_addDay_33 (g_iload_2 hR dX2_addDay_34 (g_iload_3 hR dX2_addDay_35 (g_callV2P hR dX2_addDay_36 mlX2_61 hL.sh.lt hL.sh.obj rfl (C_lost hL1 ok (by omega) hd) (by decide) (Nat.le_of_ble_eq_true rfl) (g_iadd hR dX2_addDay_39 (g_put hR dX2_addDay_40 fpX2_34 h.sh.lt h.sh.obj rfl (g_aload_1 hR dX2_addDay_43 (g_iload_2 hR dX2_addDay_44 (g_iload_3 hR dX2_addDay_45 (g_callV2P hR dX2_addDay_46 mlX2_65 hL.sh.lt hL.sh.obj rfl (C_outcome (hL1.fr Fr.one (by omega)) ok (by omega) hd) (by decide) (Nat.le_of_ble_eq_true rfl) (g_if_ne hR 65 dX2_addDay_49 (by decide) (by omega) (fun c49 => ?_) (fun c49 => ?_))))))))))))))
  · skip
    refine g_aload_0 hR dX2_addDay_65 (g_iload_2 hR dX2_addDay_66 (g_aload_1 hR dX2_addDay_67 (g_getR hR dX2_addDay_68 flX2_68 hL.sh.lt hL.sh.obj rfl (g_iload_2 hR dX2_addDay_71 (g_callV1P hR dX2_addDay_72 mlX2_54 hL.sh.right.lt hL.sh.right.obj rfl (Cn_at (hL1.fr Fr.one (by omega)).r (i := k) (by omega)) (by decide) (Nat.le_of_ble_eq_true rfl) (g_callV2V hR dX2_addDay_75 mlX2_71 h.sh.lt h.sh.obj rfl (C_addWord (M := (M.1, M.2.1.set k (M.2.1.getD k 0 + 1), M.2.2.1 + 1, M.2.2.2.1 + lo L k d, M.2.2.2.2)) (k := k) (d := (Lr L).getD k 0) ⟨h.sh, ((h.wd.fr Fr.one (by omega)).fr hu1.2 (by omega)).fr Fr.one (by omega), hu1.1.fr Fr.one (by omega), by show (M.2.1.set k _).length = 6; rw [List.length_set]; exact h.h6, by rw [m_set_j (by omega), hn1, m_set_at]; rfl, by rw [m_set_at]; rfl, by rw [m_set_j (by omega), hn1, m_set_j (by omega)]; exact h.good⟩) (by decide) (Nat.le_of_ble_eq_true rfl) (fun u2 hu2 => ?_)))))))
    unfold wordM at hu2
    have e : dayM L M k d = (((6 * k + (Lr L).getD k 0) :: M.1).take 40, M.2.1.set k (M.2.1.getD k 0 + 1), M.2.2.1 + 1, M.2.2.2.1 + lo L k d, M.2.2.2.2) := by unfold dayM; rw [if_neg (by omega), if_neg (by omega)]; rfl
    exact g_vret hR dX2_addDay_78 rfl ⟨by rw [e]; exact hu2.1, hF1.tr ((Fr.one.mono (by omega) (by omega)).tr (hu2.2.mono (by omega) (by omega)))⟩
  · skip
    refine g_aload_0 hR dX2_addDay_52 (g_dup hR dX2_addDay_53 rfl (g_getI hR _ dX2_addDay_54 flX2_37 h.sh.lt h.sh.obj rfl (by rw [m_set_j (by omega), hn1, m_set_j (by omega)]; exact h.good) (g_iconst hR dX2_addDay_57 (g_iadd hR dX2_addDay_58 (g_put hR dX2_addDay_59 fpX2_37 h.sh.lt h.sh.obj rfl (g_goto hR 78 dX2_addDay_62 (by decide) ?_))))))
    have e : dayM L M k d = (M.1, M.2.1.set k (M.2.1.getD k 0 + 1), M.2.2.1 + 1, M.2.2.2.1 + lo L k d, M.2.2.2.2 + 1) := by unfold dayM; rw [if_pos (by omega), if_pos (by omega)]
    have hF2 : ∀ v w : Int32, Fr u1 (m_set (m_set u1 n 3 v) n 4 w) n (n + 1) := fun v w => Fr.one.tr Fr.one
    exact g_vret hR dX2_addDay_78 rfl ⟨by rw [e]; exact ⟨h.sh, ((h.wd.fr Fr.one (by omega)).fr hu1.2 (by omega)).fr (hF2 _ _) (by omega), hu1.1.fr (hF2 _ _) (by omega), by show (M.2.1.set k _).length = 6; rw [List.length_set]; exact h.h6, by rw [m_set_j (by omega), m_set_j (by omega), hn1, m_set_at]; rfl, by rw [m_set_j (by omega), m_set_at]; rfl, by rw [m_set_at]; rfl⟩, hF1.tr ((hF2 _ _).mono (by omega) (by omega))⟩
theorem C_memCopy {E : f_E} {σ : f_Mem} {n : Nat} {m : Nat} {M : Mms} (h : MmX σ n) (h2 : Mm σ m M) (hd : m + 5 ≤ n ∨ n + 5 ≤ m) : FV E sC mX2_copyFrom 2 [.ref (f_ad E n), .ref (f_ad E m)] σ (fun u => Mm u n M ∧ Fr σ u n (n + 5)) := by
  refine FV.intro rfl (Nat.le_of_ble_eq_true rfl) (L0 := [some (.ref (f_ad E n)), some (.ref (f_ad E m))]) rfl (fun G hR => ?_)
  obtain ⟨hsh, ⟨l1, h1⟩, ⟨l2, h3⟩⟩ := h
  refine g_aload_0 hR dX2_copyFrom_0 (g_getR hR dX2_copyFrom_1 flX2_14 hsh.lt hsh.obj rfl (g_aload_1 hR dX2_copyFrom_4 (g_getR hR dX2_copyFrom_5 flX2_14 h2.sh.lt h2.sh.obj rfl (g_callV1V hR dX2_copyFrom_8 mlX2_74 hsh.words.lt hsh.words.obj rfl (Cn_copyFrom h1 h2.wd (by omega)) (by decide) (Nat.le_of_ble_eq_true rfl) (fun u1 hu1 => ?_)))))
  have h3 := h3.fr hu1.2 (by omega)
  have g2 := h2.fr hu1.2 (by omega)
  refine g_aload_0 hR dX2_copyFrom_11 (g_getR hR dX2_copyFrom_12 flX2_20 hsh.lt hsh.obj rfl (g_aload_1 hR dX2_copyFrom_15 (g_getR hR dX2_copyFrom_16 flX2_20 h2.sh.lt h2.sh.obj rfl (g_callV1V hR dX2_copyFrom_19 mlX2_74 hsh.handed.lt hsh.handed.obj rfl (Cn_copyFrom h3 g2.hd (by omega)) (by decide) (Nat.le_of_ble_eq_true rfl) (fun u2 hu2 => ?_)))))
  have k1 := hu1.1.fr hu2.2 (by omega)
  have g2 := g2.fr hu2.2 (by omega)
  refine g_aload_0 hR dX2_copyFrom_22 (g_aload_1 hR dX2_copyFrom_23 (g_getI hR _ dX2_copyFrom_24 flX2_30 h2.sh.lt h2.sh.obj rfl g2.days (g_put hR dX2_copyFrom_27 fpX2_30 hsh.lt hsh.obj rfl (g_aload_0 hR dX2_copyFrom_30 (g_aload_1 hR dX2_copyFrom_31 (g_getI hR _ dX2_copyFrom_32 flX2_34 h2.sh.lt h2.sh.obj rfl (by rw [m_set_n (by omega)]; exact g2.lost) (g_put hR dX2_copyFrom_35 fpX2_34 hsh.lt hsh.obj rfl (g_aload_0 hR dX2_copyFrom_38 (g_aload_1 hR dX2_copyFrom_39 (g_getI hR _ dX2_copyFrom_40 flX2_37 h2.sh.lt h2.sh.obj rfl (by rw [m_set_n (by omega), m_set_n (by omega)]; exact g2.good) (g_put hR dX2_copyFrom_43 fpX2_37 hsh.lt hsh.obj rfl ?_)))))))))))
  have f6 : Fr u2 (m_set (m_set (m_set u2 n 2 (iI M.2.2.1)) n 3 (iI M.2.2.2.1)) n 4 (iI M.2.2.2.2)) n (n + 1) := (Fr.one.tr Fr.one).tr Fr.one
  exact g_vret hR dX2_copyFrom_46 rfl ⟨⟨hsh, k1.fr f6 (by omega), hu2.1.fr f6 (by omega), h2.h6, by simp [m_set, m_row, upd], by simp [m_set, m_row, upd], by simp [m_set, m_row, upd]⟩, ((hu1.2.mono (by omega) (by omega)).tr (hu2.2.mono (by omega) (by omega))).tr (f6.mono (by omega) (by omega))⟩
