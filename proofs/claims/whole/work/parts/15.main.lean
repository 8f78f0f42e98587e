
theorem sh_lrn0 : isLrn 97 (some 102) := sh_lrn 0 (by decide)
/-- text; lesson; memory; past, kept (the oldest first); seen -/
abbrev AS : Type := List Nat × Les × Mms × List Mms × List Mms × List Nat
def At (A : AS) : List Nat := A.1
def AL (A : AS) : Les := A.2.1
def AM (A : AS) : Mms := A.2.2.1
def Ap (A : AS) : List Mms := A.2.2.2.1
def Ak (A : AS) : List Mms := A.2.2.2.2.1
def Az (A : AS) : List Nat := A.2.2.2.2.2
def AK (A : AS) : Nat := (Lm (AL A)).length
def MOK (L : Les) (M : Mms) : Prop := WOK L M.1 ∧ M.1.length ≤ 40 ∧ M.2.1.length = 6
def ASOK (A : AS) : Prop := ((∀ v ∈ At A, 32 ≤ v ∧ v ≤ 126) ∧ (At A).length ≤ 200) ∧ LesOK (AL A) ∧ 1 ≤ AK A ∧ MOK (AL A) (AM A) ∧ ((∀ M ∈ Ap A, MOK (AL A) M) ∧ (Ap A).length ≤ 8) ∧ ((∀ M ∈ Ak A, MOK (AL A) M) ∧ (Ak A).length ≤ 2) ∧ (∀ v ∈ Az A, v / 6 < (Lrow (AL A)).length) ∧ (Az A).length ≤ 8
theorem ASOK.tx {A : AS} (h : ASOK A) : Tx (At A) := fun i => by
  by_cases q : i < (At A).length
  · exact (h.1.1 _ (getD_mem q)).2
  · rw [getD_out (by omega)]; omega
theorem ASOK.L {A : AS} (h : ASOK A) : LesOK (AL A) := h.2.1
theorem ASOK.K1 {A : AS} (h : ASOK A) : 1 ≤ AK A := h.2.2.1
theorem ASOK.K6 {A : AS} (h : ASOK A) : AK A ≤ 6 := h.L.k
theorem ASOK.M {A : AS} (h : ASOK A) : MOK (AL A) (AM A) := h.2.2.2.1
theorem ASOK.w {A : AS} (h : ASOK A) : WOK (AL A) (AM A).1 := h.M.1
theorem ASOK.wl {A : AS} (h : ASOK A) : (AM A).1.length ≤ 40 := h.M.2.1
def Scr (σ : f_Mem) : Prop := (∃ L, Lsn σ 3 L) ∧ (∃ l, Num σ 17 5 l) ∧ (∃ l, Num σ 93 60 l) ∧ (∃ l, Num σ 95 6 l) ∧ (∀ j, j < 8 → LrX σ (97 + 5 * j) (lrnB j)) ∧ (∃ l, Num σ 138 6 l) ∧ (∃ l, Num σ 140 7 l) ∧ ∃ l, Num σ 142 7 l
def InvC (σ : f_Mem) (A : AS) : Prop := Num σ 1 200 (At A) ∧ Lsn σ 19 (AL A) ∧ Mm σ 32 (AM A) ∧ (∃ P, Shf σ 37 8 P (Ap A)) ∧ (∃ P, Shf σ 79 2 P (Ak A)) ∧ Num σ 91 8 (Az A) ∧ Scr σ
section IP
variable {σ u : f_Mem} {A : AS}
theorem InvC.t (h : InvC σ A) : Num σ 1 200 (At A) := h.1
theorem InvC.L (h : InvC σ A) : Lsn σ 19 (AL A) := h.2.1
theorem InvC.M (h : InvC σ A) : Mm σ 32 (AM A) := h.2.2.1
theorem InvC.p (h : InvC σ A) : ∃ P, Shf σ 37 8 P (Ap A) := h.2.2.2.1
theorem InvC.k (h : InvC σ A) : ∃ P, Shf σ 79 2 P (Ak A) := h.2.2.2.2.1
theorem InvC.z (h : InvC σ A) : Num σ 91 8 (Az A) := h.2.2.2.2.2.1
theorem InvC.s (h : InvC σ A) : Scr σ := h.2.2.2.2.2.2
theorem Scr.fr {a b : Nat} (h : Scr σ) (hf : Fr σ u a b) (hd : a = 0 ∧ b ≤ 3 ∨ 19 ≤ a ∧ b ≤ 93) : Scr u := by
  obtain ⟨⟨L, h1⟩, ⟨l2, h2⟩, ⟨l3, h3⟩, ⟨l4, h4⟩, h5, ⟨l6, h6⟩, ⟨l7, h7⟩, ⟨l8, h8⟩⟩ := h
  exact ⟨⟨L, h1.fr hf (by omega)⟩, ⟨l2, h2.fr hf (by omega)⟩, ⟨l3, h3.fr hf (by omega)⟩, ⟨l4, h4.fr hf (by omega)⟩, fun j hj => (h5 j hj).fr hf (by omega), ⟨l6, h6.fr hf (by omega)⟩, ⟨l7, h7.fr hf (by omega)⟩, ⟨l8, h8.fr hf (by omega)⟩⟩
/-- what only looks writes above 93 alone -/
theorem InvC.scr (h : InvC σ A) (hf : Fr σ u 93 144) (hs : Scr u) : InvC u A := by
  obtain ⟨P, hp⟩ := h.p
  obtain ⟨P2, hk⟩ := h.k
  exact ⟨h.t.fr hf (by omega), h.L.fr hf (by omega), h.M.fr hf (by omega), ⟨P, hp.fr hf (by omega)⟩, ⟨P2, hk.fr hf (by omega)⟩, h.z.fr hf (by omega), hs⟩
theorem Scr.lr (h : Scr σ) (hf : Fr σ u 97 137) (hl : ∀ j, j < 8 → LrX u (97 + 5 * j) (lrnB j)) : Scr u := by
  obtain ⟨⟨L, h1⟩, ⟨l2, h2⟩, ⟨l3, h3⟩, ⟨l4, h4⟩, h5, ⟨l6, h6⟩, ⟨l7, h7⟩, ⟨l8, h8⟩⟩ := h
  exact ⟨⟨L, h1.fr hf (by omega)⟩, ⟨l2, h2.fr hf (by omega)⟩, ⟨l3, h3.fr hf (by omega)⟩, ⟨l4, h4.fr hf (by omega)⟩, hl, ⟨l6, h6.fr hf (by omega)⟩, ⟨l7, h7.fr hf (by omega)⟩, ⟨l8, h8.fr hf (by omega)⟩⟩
theorem InvC.lr (h : InvC σ A) (hf : Fr σ u 97 137) (hl : ∀ j, j < 8 → LrX u (97 + 5 * j) (lrnB j)) : InvC u A := h.scr (hf.mono (by omega) (by omega)) (h.s.lr hf hl)
theorem InvC.l0 (h : InvC σ A) (hf : Fr σ u 97 102) (hl : LrX u 97 (some 102)) : InvC u A := h.lr (hf.mono (by omega) (by omega)) (fun j hj => by
  cases j with
  | zero => exact hl
  | succ j => exact (h.s.2.2.2.2.1 (j + 1) hj).fr hf (by omega))
theorem InvC.lx (h : InvC σ A) : LrX σ 97 (some 102) := h.s.2.2.2.2.1 0 (by decide)
end IP

theorem C_learnerNow {E : f_E} {σ : f_Mem} {A : AS} (h : InvC σ A) (ok : ASOK A) {s : Nat} (hs : s < 4) : FR E sC mX7_learnerNow 3 [.ref (f_ad E 0), .int (iI s)] σ (some 97) (fun u => Lrn u 97 (some 102) s (Lfirst (AL A)) (AM A).1 ∧ Fr σ u 97 102) := by
  have hK1 := ok.K1
  have hK6 := ok.K6
  have hkk : AK A = (Lm (AL A)).length := rfl
  refine FR.intro rfl (Nat.le_of_ble_eq_true rfl) (L0 := [some (.ref (f_ad E 0)), some (.int (iI s))]) rfl (fun G hR => ?_)
  refine g_aload_0 hR dX7_learnerNow_0 (g_getR hR dX7_learnerNow_1 flX7_68 (by decide) rfl rfl (g_iload_1 hR dX7_learnerNow_4 (g_aload_0 hR dX7_learnerNow_5 (g_getR hR dX7_learnerNow_6 flX7_34 (by decide) rfl rfl (g_getI hR _ dX7_learnerNow_9 flX7_223 sh_laid.lt sh_laid.obj rfl h.L.first (g_callV2V hR dX7_learnerNow_12 mlX7_277 sh_lrn0.lt sh_lrn0.obj rfl (C_begin (s := s) (f := Lfirst (AL A)) h.lx) (by decide) (Nat.le_of_ble_eq_true rfl) (fun u1 hu1 => ?_)))))))
  have hM := h.M.fr hu1.2 (by omega)
  refine g_aload_0 hR dX7_learnerNow_15 (g_getR hR dX7_learnerNow_16 flX7_68 (by decide) rfl rfl (g_aload_0 hR dX7_learnerNow_19 (g_getR hR dX7_learnerNow_20 flX7_40 (by decide) rfl rfl (g_getR hR dX7_learnerNow_23 flX7_150 sh_memory.lt sh_memory.obj rfl (g_callV1V hR dX7_learnerNow_26 mlX7_280 sh_lrn0.lt sh_lrn0.obj rfl (C_hearAll hu1.1 hM.wd (by omega) (fun w hw => by have := ok.w w (List.mem_reverse.mp hw); omega)) (by decide) (Nat.le_of_ble_eq_true rfl) (fun u2 hu2 => (g_aload_0 hR dX7_learnerNow_29 (g_getR hR dX7_learnerNow_30 flX7_68 (by decide) rfl rfl ?_))))))))
  exact g_aret hR dX7_learnerNow_33 rfl rfl ⟨by have := hu2.1; rwa [List.reverse_reverse, List.append_nil] at this, hu1.2.tr hu2.2⟩

def isK (A : AS) (a : Int) : Prop := 0 ≤ a ∧ a < AK A
def sp_write (A : AS) (a : Int) : Int × AS := if 32 ≤ a ∧ a ≤ 126 then (if (At A).length = 200 then (-3, A) else ((At A).length + 1, (At A ++ [a.toNat], A.2))) else (-1, A)
def sp_wipe (A : AS) : Int × AS := ((At A).length, ([], A.2))
def sp_fault (A : AS) : Int := oI (rdText (At A)).1
def M00 : Mms := ([], List.replicate 6 0, 0, 0, 0)
def sp_lay (A : AS) : Int × AS := if (rdText (At A)).1 = none ∧ (Lm (rdText (At A)).2).length ≠ 0 then ((Lm (rdText (At A)).2).length, (At A, (rdText (At A)).2, M00, [], [], [])) else (-2, A)
def sp_kind (A : AS) (a w : Int) : Int := if 0 ≤ a ∧ a < AK A then
    (if w = 0 then ((Lm (AL A)).getD a.toNat 0 : Nat) else if w = 1 then ((Lr (AL A)).getD a.toNat 0 : Nat) else if w = 2 then ((Lp (AL A)).getD a.toNat 0 : Nat) else if w = 3 then ((Lw (AL A)).getD a.toNat 0 : Nat) else if w = 4 then ((Lc (AL A)).getD a.toNat 0 : Nat) else if w = 5 then ((AM A).2.1.getD a.toNat 0 : Nat) else -1)
  else -1
def sp_errand (A : AS) (a : Int) : Int := if a < 0 then -1 else if a < (Lrow (AL A)).length then ((Lrow (AL A)).getD a.toNat 0 : Nat) else -4
def sp_word (A : AS) (a : Int) : Int := if a < 0 then -1 else if a < (AM A).1.length then ((AM A).1.getD a.toNat 0 : Nat) else -4
def sp_unlike (A : AS) (a b : Int) : Int := if (0 ≤ a ∧ a < AK A) ∧ 0 ≤ b ∧ b < AK A then (ap (AL A) a.toNat b.toNat : Nat) else -1
def sp_does (A : AS) (s a : Int) : Int := if (0 ≤ s ∧ s ≤ 3) ∧ 0 ≤ a ∧ a < AK A then (does (AL A) s.toNat (Lfirst (AL A)) a.toNat (AM A).1 : Nat) else -1
def pushP (A : AS) : List Mms := (if (Ap A).length < 8 then Ap A else (Ap A).tail) ++ [AM A]
def didN (A : AS) (k : Nat) : Nat := does (AL A) (Lsort (AL A)) (Lfirst (AL A)) k (AM A).1
def sp_hand (A : AS) (a : Int) : Int × AS := if 0 ≤ a ∧ a < AK A then ((oc (AL A) a.toNat (didN A a.toNat) : Nat), (At A, AL A, dayM (AL A) (AM A) a.toNat (didN A a.toNat), pushP A, Ak A, Az A)) else (-1, A)
def sp_teach (A : AS) (a d : Int) : Int × AS := if (0 ≤ a ∧ a < AK A) ∧ 0 ≤ d ∧ d ≤ 5 then (((wordM (AM A) (6 * a.toNat + d.toNat)).1.length : Nat), (At A, AL A, wordM (AM A) (6 * a.toNat + d.toNat), pushP A, Ak A, Az A)) else (-1, A)
def sp_undo (A : AS) : Int × AS := if (Ap A).length = 0 then (-2, A) else (((Ap A).length : Int) - 1, (At A, AL A, (Ap A).getD ((Ap A).length - 1) M00, (Ap A).dropLast, Ak A, Az A))
def rowL (L : Les) (row : List Nat) : Les := (Lm L, Lr L, Lp L, Lw L, Lc L, row, Lsort L, Lfirst L)
def sp_tell (A : AS) (a : Int) : Int × AS := if 0 ≤ a ∧ a < AK A then (if (Lrow (AL A)).length = 10 then (-3, A) else ((Lrow (AL A)).length + 1, (At A, rowL (AL A) (Lrow (AL A) ++ [a.toNat]), AM A, Ap A, Ak A, Az A))) else (-1, A)
def sp_noRow (A : AS) : Int × AS := ((Lrow (AL A)).length, (At A, rowL (AL A) [], AM A, Ap A, Ak A, []))
def sp_seen (A : AS) (a d : Int) : Int × AS := if (0 ≤ a ∧ a < (Lrow (AL A)).length) ∧ 0 ≤ d ∧ d ≤ 5 then (if (Az A).length = 8 then (-3, A) else ((Az A).length + 1, (At A, AL A, AM A, Ap A, Ak A, Az A ++ [6 * a.toNat + d.toNat]))) else (-1, A)
def sp_forget (A : AS) : Int × AS := ((Az A).length, (At A, AL A, AM A, Ap A, Ak A, []))
def sp_keep (A : AS) : Int × AS := if (Ak A).length = 2 then (-3, A) else ((Ak A).length + 1, (At A, AL A, AM A, Ap A, Ak A ++ [AM A], Az A))
def sp_back (A : AS) : Int × AS := if (Ak A).length = 0 then (-2, A) else (((Ak A).length : Int) - 1, (At A, AL A, (Ak A).getD ((Ak A).length - 1) M00, [], (Ak A).dropLast, Az A))
def sp_count (A : AS) (w : Int) : Int := if w = 0 then AK A else if w = 1 then Lsort (AL A) else if w = 2 then Lfirst (AL A) else if w = 3 then (Lrow (AL A)).length else if w = 4 then (AM A).1.length else if w = 5 then (AM A).2.2.1 else if w = 6 then (AM A).2.2.2.1 else if w = 7 then (AM A).2.2.2.2 else if w = 8 then (Az A).length else if w = 9 then (Ap A).length else if w = 10 then (Ak A).length else if w = 11 then (At A).length else -1
theorem InvC.setT {σ u : f_Mem} {A : AS} {t : List Nat} (h : InvC σ A) (h1 : Num u 1 200 t) (hf : Fr σ u 1 3) : InvC u (t, A.2) := by
  obtain ⟨P, hp⟩ := h.p
  obtain ⟨P2, hk⟩ := h.k
  exact ⟨h1, h.L.fr hf (by omega), h.M.fr hf (by omega), ⟨P, hp.fr hf (by omega)⟩, ⟨P2, hk.fr hf (by omega)⟩, h.z.fr hf (by omega), h.s.fr (a := 0) (b := 3) (hf.mono (by omega) (by omega)) (by omega)⟩
theorem InvC.setZ {σ u : f_Mem} {A : AS} {z : List Nat} (h : InvC σ A) (h1 : Num u 91 8 z) (hf : Fr σ u 91 93) : InvC u (At A, AL A, AM A, Ap A, Ak A, z) := by
  obtain ⟨P, hp⟩ := h.p
  obtain ⟨P2, hk⟩ := h.k
  exact ⟨h.t.fr hf (by omega), h.L.fr hf (by omega), h.M.fr hf (by omega), ⟨P, hp.fr hf (by omega)⟩, ⟨P2, hk.fr hf (by omega)⟩, h1, h.s.fr hf (by omega)⟩
theorem InvC.setR {σ u : f_Mem} {A : AS} {row : List Nat} (h : InvC σ A) (h1 : Num u 30 10 row) (hf : Fr σ u 30 32) : InvC u (At A, rowL (AL A) row, AM A, Ap A, Ak A, Az A) := by
  obtain ⟨P, hp⟩ := h.p
  obtain ⟨P2, hk⟩ := h.k
  have hL := h.L
  exact ⟨h.t.fr hf (by omega), ⟨hL.sh, hL.m.fr hf (by omega), hL.r.fr hf (by omega), hL.p.fr hf (by omega), hL.w.fr hf (by omega), hL.c.fr hf (by omega), h1, by rw [hf 19 (by omega)]; exact hL.sort, by rw [hf 19 (by omega)]; exact hL.first⟩, h.M.fr hf (by omega), ⟨P, hp.fr hf (by omega)⟩, ⟨P2, hk.fr hf (by omega)⟩, h.z.fr hf (by omega), h.s.fr hf (by omega)⟩
/-- after reading: told and numbers alone -/
theorem InvC.rd {σ u : f_Mem} {A : AS} {o : Option Nat × Les} (h : InvC σ A) (hu : RaP σ u o) : InvC u A := by
  obtain ⟨P, hp⟩ := h.p
  obtain ⟨P2, hk⟩ := h.k
  obtain ⟨⟨L2, g1, -⟩, ⟨l, g2⟩, hf⟩ := hu
  obtain ⟨-, -, ⟨l3, h3⟩, ⟨l4, h4⟩, h5, ⟨l6, h6⟩, ⟨l7, h7⟩, ⟨l8, h8⟩⟩ := h.s
  exact ⟨h.t.fr hf (by omega), h.L.fr hf (by omega), h.M.fr hf (by omega), ⟨P, hp.fr hf (by omega)⟩, ⟨P2, hk.fr hf (by omega)⟩, h.z.fr hf (by omega), ⟨⟨L2, g1⟩, ⟨l, g2⟩, ⟨l3, h3.fr hf (by omega)⟩, ⟨l4, h4.fr hf (by omega)⟩, fun j hj => (h5 j hj).fr hf (by omega), ⟨l6, h6.fr hf (by omega)⟩, ⟨l7, h7.fr hf (by omega)⟩, ⟨l8, h8.fr hf (by omega)⟩⟩⟩

theorem K_write {E : f_E} {σ : f_Mem} {A : AS} (h : InvC σ A) (ok : ASOK A) {a : Int} (ha : -2147483648 ≤ a ∧ a < 2147483648) : FZ E sC mX7_write 12 [.ref (f_ad E 0), .int (iI a)] σ (sp_write A a).1 (fun u => InvC u (sp_write A a).2) := by
  have hK1 := ok.K1
  have hK6 := ok.K6
  have hkk : AK A = (Lm (AL A)).length := rfl
  have hlt := h.t.le
  refine FZ.intro rfl (Nat.le_of_ble_eq_true rfl) (L0 := [some (.ref (f_ad E 0)), some (.int (iI a))]) rfl (fun G hR => ?_)
  refine g_iload_1 hR dX7_write_0 (g_bipush hR dX7_write_1 (by decide) (g_bipush hR dX7_write_3 (by decide) (g_callS3P hR dX7_write_5 mlX7_105 (C_isWithin ha (by omega) (by omega)) (by decide) (Nat.le_of_ble_eq_true rfl) (g_if_ne hR 13 dX7_write_8 (by decide) (by split <;> omega) (fun c8 => ?_) (fun c8 => ?_)))))
  · skip
    obtain ⟨c, rfl⟩ : ∃ c : Nat, a = c := ⟨a.toNat, by omega⟩
    refine g_aload_0 hR dX7_write_13 (g_getR hR dX7_write_14 flX7_14 (by decide) rfl rfl (g_callV0P hR dX7_write_17 mlX7_109 sh_text.lt sh_text.obj rfl (Cn_isFull h.t) (by decide) (Nat.le_of_ble_eq_true rfl) (g_if_eq hR 26 dX7_write_20 (by decide) (by split <;> omega) (fun c20 => ?_) (fun c20 => ?_))))
    · skip
      refine g_aload_0 hR dX7_write_26 (g_getR hR dX7_write_27 flX7_14 (by decide) rfl rfl (g_iload_1 hR dX7_write_30 (g_callV1V hR dX7_write_31 mlX7_93 sh_text.lt sh_text.obj rfl (Cn_add h.t (v := c) (by omega)) (by decide) (Nat.le_of_ble_eq_true rfl) (fun u1 hu1 => (g_aload_0 hR dX7_write_34 (g_getR hR dX7_write_35 flX7_14 (by decide) rfl rfl (g_callV0P hR dX7_write_38 mlX7_113 sh_text.lt sh_text.obj rfl (Cn_size hu1.1) (by decide) (Nat.le_of_ble_eq_true rfl) ?_)))))))
      exact g_iret hR dX7_write_41 rfl (by unfold sp_write; rw [if_pos (by omega), if_neg (by omega)]; rw [List.length_append]; rfl) (by unfold sp_write; rw [if_pos (by omega), if_neg (by omega)]; exact h.setT hu1.1 hu1.2)
    · skip
      refine g_bipush hR dX7_write_23 (by decide) ?_
      exact g_iret hR dX7_write_25 rfl (by unfold sp_write; rw [if_pos (by omega), if_pos (by omega)]; skip) (by unfold sp_write; rw [if_pos (by omega), if_pos (by omega)]; exact h)
  · skip
    refine g_iconst hR dX7_write_11 ?_
    exact g_iret hR dX7_write_12 rfl (by unfold sp_write; rw [if_neg (by omega)]; skip) (by unfold sp_write; rw [if_neg (by omega)]; exact h)
theorem K_wipe {E : f_E} {σ : f_Mem} {A : AS} (h : InvC σ A) (ok : ASOK A) : FZ E sC mX7_wipe 12 [.ref (f_ad E 0)] σ (sp_wipe A).1 (fun u => InvC u (sp_wipe A).2) := by
  refine FZ.intro rfl (Nat.le_of_ble_eq_true rfl) (L0 := [some (.ref (f_ad E 0)), none]) rfl (fun G hR => ?_)
  refine g_aload_0 hR dX7_wipe_0 (g_getR hR dX7_wipe_1 flX7_14 (by decide) rfl rfl (g_callV0P hR dX7_wipe_4 mlX7_113 sh_text.lt sh_text.obj rfl (Cn_size h.t) (by decide) (Nat.le_of_ble_eq_true rfl) (g_istore_1 hR dX7_wipe_7 rfl (g_aload_0 hR dX7_wipe_8 (g_getR hR dX7_wipe_9 flX7_14 (by decide) rfl rfl (g_callV0V hR dX7_wipe_12 mlX7_102 sh_text.lt sh_text.obj rfl (Cn_clear h.t) (by decide) (Nat.le_of_ble_eq_true rfl) (fun u1 hu1 => (g_iload_1 hR dX7_wipe_15 ?_))))))))
  exact g_iret hR dX7_wipe_16 rfl rfl (h.setT hu1.1 hu1.2)
theorem K_fault {E : f_E} {σ : f_Mem} {A : AS} (h : InvC σ A) (ok : ASOK A) : FZ E sC mX7_fault 12 [.ref (f_ad E 0)] σ (sp_fault A) (fun u => InvC u A) := by
  refine FZ.intro rfl (Nat.le_of_ble_eq_true rfl) (L0 := [some (.ref (f_ad E 0))]) rfl (fun G hR => ?_)
  refine g_aload_0 hR dX7_fault_0 (g_getR hR dX7_fault_1 flX7_30 (by decide) rfl rfl (g_callV0Z hR dX7_fault_4 mlX7_96 (by decide) rfl rfl (Cr_readAll h.t ok.tx h.s.2.1 h.s.1) (by decide) (Nat.le_of_ble_eq_true rfl) (fun u1 hu1 => ?_)))
  exact g_iret hR dX7_fault_7 rfl rfl (h.rd hu1)

theorem rdAll_lt (t : List Nat) : ∀ (n p : Nat) (L : Les) (q : Nat), (rdAll t n p L).1 = some q → q < t.length
  | 0, p, L, q, h => by cases h
  | n + 1, p, L, q, h => by
    unfold rdAll at h
    by_cases hp : p < t.length
    · rw [if_pos hp] at h
      cases hI : rdItem t p L with
      | none => rw [hI] at h; cases h; exact hp
      | some q2 => rw [hI] at h; exact rdAll_lt t n _ _ q h
    · rw [if_neg hp] at h; cases h
theorem rdText_lt {t : List Nat} {q : Nat} (h : (rdText t).1 = some q) (ht : t.length ≤ 200) : q < 200 := Nat.lt_of_lt_of_le (rdAll_lt t 200 0 L00 q h) ht

theorem K_lay {E : f_E} {σ : f_Mem} {A : AS} (h : InvC σ A) (ok : ASOK A) : FZ E sC mX7_lay 12 [.ref (f_ad E 0)] σ (sp_lay A).1 (fun u => InvC u (sp_lay A).2) := by
  refine FZ.intro rfl (Nat.le_of_ble_eq_true rfl) (L0 := [some (.ref (f_ad E 0))]) rfl (fun G hR => ?_)
  cases hr : (rdText (At A)).1 with
  | some p =>
    refine g_aload_0 hR dX7_lay_0 (g_getR hR dX7_lay_1 flX7_30 (by decide) rfl rfl (g_callV0Z hR dX7_lay_4 mlX7_96 (by decide) rfl rfl (show FZ E sC mX5_readAll 5 [.ref (f_ad E 16)] σ (p : Int) (fun u => RaP σ u (rdText (At A))) from (show oI (rdText (At A)).1 = (p : Int) from by rw [hr]; rfl) ▸ Cr_readAll h.t ok.tx h.s.2.1 h.s.1) (by decide) (Nat.le_of_ble_eq_true rfl) (fun u1 hu1 => (g_bipush hR dX7_lay_7 (by decide) (g_icmp_ne hR 22 dX7_lay_9 (by decide) (by have := rdText_lt hr ok.1.2; omega) (by omega) (fun c9 => ?_) (fun c9 => ?_))))))
    · skip
      refine g_bipush hR dX7_lay_22 (by decide) ?_
      exact g_iret hR dX7_lay_24 rfl (by unfold sp_lay; rw [if_neg (fun q => by rw [hr] at q; cases q.1)]) (by unfold sp_lay; rw [if_neg (fun q => by rw [hr] at q; cases q.1)]; exact h.rd hu1)
    · skip
      exact absurd c9 (by omega)
  | none =>
    refine g_aload_0 hR dX7_lay_0 (g_getR hR dX7_lay_1 flX7_30 (by decide) rfl rfl (g_callV0Z hR dX7_lay_4 mlX7_96 (by decide) rfl rfl (show FZ E sC mX5_readAll 5 [.ref (f_ad E 16)] σ (-4) (fun u => RaP σ u (rdText (At A))) from (show oI (rdText (At A)).1 = -4 from by rw [hr]; rfl) ▸ Cr_readAll h.t ok.tx h.s.2.1 h.s.1) (by decide) (Nat.le_of_ble_eq_true rfl) (fun u1 hu1 => ?_)))
    have h1 := h.rd hu1
    obtain ⟨⟨L2, g1, g2⟩, g3, g4⟩ := hu1
    have g5 := g2 hr
    subst g5
    have okL := rdText_ok _ hr
    have hk6 := okL.k
    refine g_bipush hR dX7_lay_7 (by decide) (g_icmp_ne hR 22 dX7_lay_9 (by decide) (by omega) (by omega) (fun c9 => ?_) (fun c9 => ?_))
    · skip
      exact absurd rfl c9
    · skip
      refine g_aload_0 hR dX7_lay_12 (g_getR hR dX7_lay_13 flX7_21 (by decide) rfl rfl (g_callV0P hR dX7_lay_16 mlX7_116 sh_told.lt sh_told.obj rfl (C_kinds g1) (by decide) (Nat.le_of_ble_eq_true rfl) (g_if_ne hR 25 dX7_lay_19 (by decide) (by omega) (fun c19 => ?_) (fun c19 => ?_))))
      · skip
        refine g_aload_0 hR dX7_lay_25 (g_getR hR dX7_lay_26 flX7_34 (by decide) rfl rfl (g_aload_0 hR dX7_lay_29 (g_getR hR dX7_lay_30 flX7_21 (by decide) rfl rfl (g_callV1V hR dX7_lay_33 mlX7_99 sh_laid.lt sh_laid.obj rfl (C_lsnCopy h1.L g1 (by omega)) (by decide) (Nat.le_of_ble_eq_true rfl) (fun u2 hu2 => ?_)))))
        have hM2 := h1.M.x.fr hu2.2 (by omega)
        obtain ⟨Pp, hp⟩ := h1.p
        obtain ⟨Pk, hk⟩ := h1.k
        have hp := hp.fr hu2.2 (by omega)
        have hk := hk.fr hu2.2 (by omega)
        have hz := h1.z.fr hu2.2 (by omega)
        have ht := h1.t.fr hu2.2 (by omega)
        have hs := h1.s.fr hu2.2 (by omega)
        have hL := hu2.1
        refine g_aload_0 hR dX7_lay_36 (g_getR hR dX7_lay_37 flX7_40 (by decide) rfl rfl (g_callV0V hR dX7_lay_40 mlX7_119 sh_memory.lt sh_memory.obj rfl (C_memClear hM2) (by decide) (Nat.le_of_ble_eq_true rfl) (fun u3 hu3 => ?_)))
        have hp := hp.fr hu3.2 (by omega)
        have hk := hk.fr hu3.2 (by omega)
        have hz := hz.fr hu3.2 (by omega)
        have ht := ht.fr hu3.2 (by omega)
        have hs := hs.fr hu3.2 (by omega)
        have hL := hL.fr hu3.2 (by omega)
        have hM := hu3.1
        refine g_aload_0 hR dX7_lay_43 (g_getR hR dX7_lay_44 flX7_47 (by decide) rfl rfl (g_callV0V hR dX7_lay_47 mlX7_120 sh_past.lt sh_past.obj rfl (Cs_clear hp) (by decide) (Nat.le_of_ble_eq_true rfl) (fun u4 hu4 => ?_)))
        have hp := hu4.1
        have hk := hk.fr hu4.2 (by omega)
        have hz := hz.fr hu4.2 (by omega)
        have ht := ht.fr hu4.2 (by omega)
        have hs := hs.fr hu4.2 (by omega)
        have hL := hL.fr hu4.2 (by omega)
        have hM := hM.fr hu4.2 (by omega)
        refine g_aload_0 hR dX7_lay_50 (g_getR hR dX7_lay_51 flX7_51 (by decide) rfl rfl (g_callV0V hR dX7_lay_54 mlX7_120 sh_kept.lt sh_kept.obj rfl (Cs_clear hk) (by decide) (Nat.le_of_ble_eq_true rfl) (fun u5 hu5 => ?_)))
        have hp := hp.fr hu5.2 (by omega)
        have hk := hu5.1
        have hz := hz.fr hu5.2 (by omega)
        have ht := ht.fr hu5.2 (by omega)
        have hs := hs.fr hu5.2 (by omega)
        have hL := hL.fr hu5.2 (by omega)
        have hM := hM.fr hu5.2 (by omega)
        refine g_aload_0 hR dX7_lay_57 (g_getR hR dX7_lay_58 flX7_54 (by decide) rfl rfl (g_callV0V hR dX7_lay_61 mlX7_102 sh_seen.lt sh_seen.obj rfl (Cn_clear hz) (by decide) (Nat.le_of_ble_eq_true rfl) (fun u6 hu6 => ?_)))
        have hp := hp.fr hu6.2 (by omega)
        have hk := hk.fr hu6.2 (by omega)
        have hz := hu6.1
        have ht := ht.fr hu6.2 (by omega)
        have hs := hs.fr hu6.2 (by omega)
        have hL := hL.fr hu6.2 (by omega)
        have hM := hM.fr hu6.2 (by omega)
        refine g_aload_0 hR dX7_lay_64 (g_getR hR dX7_lay_65 flX7_34 (by decide) rfl rfl (g_callV0P hR dX7_lay_68 mlX7_116 sh_laid.lt sh_laid.obj rfl (C_kinds hL) (by decide) (Nat.le_of_ble_eq_true rfl) ?_))
        exact g_iret hR dX7_lay_71 rfl (by unfold sp_lay; rw [if_pos ⟨hr, by omega⟩]) (by unfold sp_lay; rw [if_pos ⟨hr, by omega⟩]; exact ⟨ht, hL, hM, ⟨_, hp⟩, ⟨_, hk⟩, hz, hs⟩)
      · skip
        refine g_bipush hR dX7_lay_22 (by decide) ?_
        exact g_iret hR dX7_lay_24 rfl (by unfold sp_lay; rw [if_neg (by omega)]) (by unfold sp_lay; rw [if_neg (by omega)]; exact h1)
theorem K_kind {E : f_E} {σ : f_Mem} {A : AS} (h : InvC σ A) (ok : ASOK A) {a w : Int} (ha : -2147483648 ≤ a ∧ a < 2147483648) (hw : -2147483648 ≤ w ∧ w < 2147483648) : FZ E sC mX7_kind 12 [.ref (f_ad E 0), .int (iI a), .int (iI w)] σ (sp_kind A a w) (fun u => InvC u A) := by
  have hK1 := ok.K1
  have hK6 := ok.K6
  have hkk : AK A = (Lm (AL A)).length := rfl
  refine FZ.intro rfl (Nat.le_of_ble_eq_true rfl) (L0 := [some (.ref (f_ad E 0)), some (.int (iI a)), some (.int (iI w))]) rfl (fun G hR => ?_)
  refine g_aload_0 hR dX7_kind_0 (g_getR hR dX7_kind_1 flX7_34 (by decide) rfl rfl (g_iload_1 hR dX7_kind_4 (g_callV1P hR dX7_kind_5 mlX7_121 sh_laid.lt sh_laid.obj rfl (C_isKind h.L ha) (by decide) (Nat.le_of_ble_eq_true rfl) (g_if_ne hR 13 dX7_kind_8 (by decide) (by split <;> omega) (fun c8 => ?_) (fun c8 => ?_)))))
  · skip
    obtain ⟨k, rfl⟩ : ∃ k : Nat, a = k := ⟨a.toNat, by omega⟩
    rcases (show w = 0 ∨ w = 1 ∨ w = 2 ∨ w = 3 ∨ w = 4 ∨ w = 5 ∨ (w < 0 ∨ 5 < w) from by omega) with rfl | rfl | rfl | rfl | rfl | rfl | hout
    · skip
      refine g_iload_2 hR dX7_kind_13 (g_tblIn hR 52 dX7_kind_14 (by omega) (by omega) (by omega) rfl (by decide) (g_aload_0 hR dX7_kind_52 (g_getR hR dX7_kind_53 flX7_34 (by decide) rfl rfl (g_getR hR dX7_kind_56 flX7_125 sh_laid.lt sh_laid.obj rfl (g_iload_1 hR dX7_kind_59 (g_callV1P hR dX7_kind_60 mlX7_128 sh_laid.marks.lt sh_laid.marks.obj rfl (Cn_at h.L.m (i := k) (by omega)) (by decide) (Nat.le_of_ble_eq_true rfl) ?_))))))
      exact g_iret hR dX7_kind_63 rfl (by unfold sp_kind; rw [if_pos (by omega)]; rfl) h
    · skip
      refine g_iload_2 hR dX7_kind_13 (g_tblIn hR 64 dX7_kind_14 (by omega) (by omega) (by omega) rfl (by decide) (g_aload_0 hR dX7_kind_64 (g_getR hR dX7_kind_65 flX7_34 (by decide) rfl rfl (g_getR hR dX7_kind_68 flX7_132 sh_laid.lt sh_laid.obj rfl (g_iload_1 hR dX7_kind_71 (g_callV1P hR dX7_kind_72 mlX7_128 sh_laid.right.lt sh_laid.right.obj rfl (Cn_at h.L.r (i := k) (by omega)) (by decide) (Nat.le_of_ble_eq_true rfl) ?_))))))
      exact g_iret hR dX7_kind_75 rfl (by unfold sp_kind; rw [if_pos (by omega)]; rfl) h
    · skip
      refine g_iload_2 hR dX7_kind_13 (g_tblIn hR 76 dX7_kind_14 (by omega) (by omega) (by omega) rfl (by decide) (g_aload_0 hR dX7_kind_76 (g_getR hR dX7_kind_77 flX7_34 (by decide) rfl rfl (g_getR hR dX7_kind_80 flX7_135 sh_laid.lt sh_laid.obj rfl (g_iload_1 hR dX7_kind_83 (g_callV1P hR dX7_kind_84 mlX7_128 sh_laid.spoil.lt sh_laid.spoil.obj rfl (Cn_at h.L.p (i := k) (by omega)) (by decide) (Nat.le_of_ble_eq_true rfl) ?_))))))
      exact g_iret hR dX7_kind_87 rfl (by unfold sp_kind; rw [if_pos (by omega)]; rfl) h
    · skip
      refine g_iload_2 hR dX7_kind_13 (g_tblIn hR 88 dX7_kind_14 (by omega) (by omega) (by omega) rfl (by decide) (g_aload_0 hR dX7_kind_88 (g_getR hR dX7_kind_89 flX7_34 (by decide) rfl rfl (g_getR hR dX7_kind_92 flX7_138 sh_laid.lt sh_laid.obj rfl (g_iload_1 hR dX7_kind_95 (g_callV1P hR dX7_kind_96 mlX7_128 sh_laid.worth.lt sh_laid.worth.obj rfl (Cn_at h.L.w (i := k) (by omega)) (by decide) (Nat.le_of_ble_eq_true rfl) ?_))))))
      exact g_iret hR dX7_kind_99 rfl (by unfold sp_kind; rw [if_pos (by omega)]; rfl) h
    · skip
      refine g_iload_2 hR dX7_kind_13 (g_tblIn hR 100 dX7_kind_14 (by omega) (by omega) (by omega) rfl (by decide) (g_aload_0 hR dX7_kind_100 (g_getR hR dX7_kind_101 flX7_34 (by decide) rfl rfl (g_getR hR dX7_kind_104 flX7_141 sh_laid.lt sh_laid.obj rfl (g_iload_1 hR dX7_kind_107 (g_callV1P hR dX7_kind_108 mlX7_128 sh_laid.chance.lt sh_laid.chance.obj rfl (Cn_at h.L.c (i := k) (by omega)) (by decide) (Nat.le_of_ble_eq_true rfl) ?_))))))
      exact g_iret hR dX7_kind_111 rfl (by unfold sp_kind; rw [if_pos (by omega)]; rfl) h
    · skip
      refine g_iload_2 hR dX7_kind_13 (g_tblIn hR 112 dX7_kind_14 (by omega) (by omega) (by omega) rfl (by decide) (g_aload_0 hR dX7_kind_112 (g_getR hR dX7_kind_113 flX7_40 (by decide) rfl rfl (g_getR hR dX7_kind_116 flX7_144 sh_memory.lt sh_memory.obj rfl (g_iload_1 hR dX7_kind_119 (g_callV1P hR dX7_kind_120 mlX7_128 sh_memory.handed.lt sh_memory.handed.obj rfl (Cn_at h.M.hd (i := k) (by omega)) (by decide) (Nat.le_of_ble_eq_true rfl) ?_))))))
      exact g_iret hR dX7_kind_123 rfl (by unfold sp_kind; rw [if_pos (by omega)]; rfl) h
    · skip
      refine g_iload_2 hR dX7_kind_13 (g_tblOut hR 124 dX7_kind_14 (by omega) (by omega) (by decide) (g_iconst hR dX7_kind_124 ?_))
      exact g_iret hR dX7_kind_125 rfl (by unfold sp_kind; rw [if_pos (by omega), if_neg (by omega), if_neg (by omega), if_neg (by omega), if_neg (by omega), if_neg (by omega), if_neg (by omega)]) h
  · skip
    refine g_iconst hR dX7_kind_11 ?_
    exact g_iret hR dX7_kind_12 rfl (by unfold sp_kind; rw [if_neg (by omega)]) h
theorem K_errand {E : f_E} {σ : f_Mem} {A : AS} (h : InvC σ A) (ok : ASOK A) {a : Int} (ha : -2147483648 ≤ a ∧ a < 2147483648) : FZ E sC mX7_errand 12 [.ref (f_ad E 0), .int (iI a)] σ (sp_errand A a) (fun u => InvC u A) := by
  have hle := h.L.row.le
  refine FZ.intro rfl (Nat.le_of_ble_eq_true rfl) (L0 := [some (.ref (f_ad E 0)), some (.int (iI a))]) rfl (fun G hR => ?_)
  refine g_iload_1 hR dX7_errand_0 (g_if_ge hR 6 dX7_errand_1 (by decide) (by omega) (fun c1 => ?_) (fun c1 => ?_))
  · skip
    obtain ⟨k, rfl⟩ : ∃ k : Nat, a = k := ⟨a.toNat, by omega⟩
    refine g_iload_1 hR dX7_errand_6 (g_aload_0 hR dX7_errand_7 (g_getR hR dX7_errand_8 flX7_34 (by decide) rfl rfl (g_getR hR dX7_errand_11 flX7_147 sh_laid.lt sh_laid.obj rfl (g_callV0P hR dX7_errand_14 mlX7_113 sh_laid.row.lt sh_laid.row.obj rfl (Cn_size h.L.row) (by decide) (Nat.le_of_ble_eq_true rfl) (g_icmp_ge hR 34 dX7_errand_17 (by decide) (by omega) (by omega) (fun c17 => ?_) (fun c17 => ?_))))))
    · skip
      refine g_bipush hR dX7_errand_34 (by decide) ?_
      exact g_iret hR dX7_errand_36 rfl (by unfold sp_errand; rw [if_neg (by omega), if_neg (by omega)]) h
    · skip
      refine g_aload_0 hR dX7_errand_20 (g_getR hR dX7_errand_21 flX7_34 (by decide) rfl rfl (g_getR hR dX7_errand_24 flX7_147 sh_laid.lt sh_laid.obj rfl (g_iload_1 hR dX7_errand_27 (g_callV1P hR dX7_errand_28 mlX7_128 sh_laid.row.lt sh_laid.row.obj rfl (Cn_at h.L.row (i := k) (by omega)) (by decide) (Nat.le_of_ble_eq_true rfl) (g_goto hR 36 dX7_errand_31 (by decide) ?_)))))
      exact g_iret hR dX7_errand_36 rfl (by unfold sp_errand; rw [if_neg (by omega), if_pos (by omega)]; rfl) h
  · skip
    refine g_iconst hR dX7_errand_4 ?_
    exact g_iret hR dX7_errand_5 rfl (by unfold sp_errand; rw [if_pos (by omega)]) h

theorem rev_getD {l : List Nat} {i : Nat} (h : i < l.length) : l.reverse.getD (l.length - 1 - i) 0 = l.getD i 0 := by
  have h1 := getD_some h
  have h2 := getD_some (l := l.reverse) (i := l.length - 1 - i) (by rw [List.length_reverse]; omega)
  rw [List.getElem?_reverse (by omega), show l.length - 1 - (l.length - 1 - i) = i from by omega, h1] at h2
  exact (Option.some.inj h2).symm

theorem K_word {E : f_E} {σ : f_Mem} {A : AS} (h : InvC σ A) (ok : ASOK A) {a : Int} (ha : -2147483648 ≤ a ∧ a < 2147483648) : FZ E sC mX7_word 12 [.ref (f_ad E 0), .int (iI a)] σ (sp_word A a) (fun u => InvC u A) := by
  have hle := ok.wl
  refine FZ.intro rfl (Nat.le_of_ble_eq_true rfl) (L0 := [some (.ref (f_ad E 0)), some (.int (iI a)), none]) rfl (fun G hR => ?_)
  refine g_iload_1 hR dX7_word_0 (g_if_ge hR 6 dX7_word_1 (by decide) (by omega) (fun c1 => ?_) (fun c1 => ?_))
  · skip
    obtain ⟨k, rfl⟩ : ∃ k : Nat, a = k := ⟨a.toNat, by omega⟩
    refine g_aload_0 hR dX7_word_6 (g_getR hR dX7_word_7 flX7_40 (by decide) rfl rfl (g_getR hR dX7_word_10 flX7_150 sh_memory.lt sh_memory.obj rfl (g_callV0P hR dX7_word_13 mlX7_113 sh_memory.words.lt sh_memory.words.obj rfl ((show FZ E sC mX3_size 0 [.ref (f_ad E 33)] σ ((AM A).1.length : Nat) (fun u => u = σ) from (List.length_reverse (as := (AM A).1)) ▸ Cn_size h.M.wd)) (by decide) (Nat.le_of_ble_eq_true rfl) (g_istore_2 hR dX7_word_16 rfl (g_iload_1 hR dX7_word_17 (g_iload_2 hR dX7_word_18 (g_icmp_ge hR 40 dX7_word_19 (by decide) (by omega) (by omega) (fun c19 => ?_) (fun c19 => ?_))))))))
    · skip
      refine g_bipush hR dX7_word_40 (by decide) ?_
      exact g_iret hR dX7_word_42 rfl (by unfold sp_word; rw [if_neg (by omega), if_neg (by omega)]) h
    · skip
      have e9 := rev_getD (l := (AM A).1) (i := k) (by omega)
      refine g_aload_0 hR dX7_word_22 (g_getR hR dX7_word_23 flX7_40 (by decide) rfl rfl (g_getR hR dX7_word_26 flX7_150 sh_memory.lt sh_memory.obj rfl (g_iload_2 hR dX7_word_29 (g_iconst hR dX7_word_30 (g_isub hR dX7_word_31 (g_iload_1 hR dX7_word_32 (g_isub hR dX7_word_33 (g_callV1P hR dX7_word_34 mlX7_128 sh_memory.words.lt sh_memory.words.obj rfl (show FZ E sC mX3_at 0 [.ref (f_ad E 33), .int (iI (((AM A).1.length : Nat) - 1 - (k : Int)))] σ ((AM A).1.getD k 0 : Nat) (fun u => u = σ) from (show (((AM A).1.length : Nat) - 1 - (k : Int)) = (((AM A).1.length - 1 - k : Nat) : Int) from by omega) ▸ e9 ▸ Cn_at h.M.wd (i := (AM A).1.length - 1 - k) (by omega)) (by decide) (Nat.le_of_ble_eq_true rfl) (g_goto hR 42 dX7_word_37 (by decide) ?_)))))))))
      exact g_iret hR dX7_word_42 rfl (by unfold sp_word; rw [if_neg (by omega), if_pos (by omega)]; rfl) h
  · skip
    refine g_iconst hR dX7_word_4 ?_
    exact g_iret hR dX7_word_5 rfl (by unfold sp_word; rw [if_pos (by omega)]) h
theorem K_unlike {E : f_E} {σ : f_Mem} {A : AS} (h : InvC σ A) (ok : ASOK A) {a b : Int} (ha : -2147483648 ≤ a ∧ a < 2147483648) (hb : -2147483648 ≤ b ∧ b < 2147483648) : FZ E sC mX7_unlike 12 [.ref (f_ad E 0), .int (iI a), .int (iI b)] σ (sp_unlike A a b) (fun u => InvC u A) := by
  have hK1 := ok.K1
  have hK6 := ok.K6
  have hkk : AK A = (Lm (AL A)).length := rfl
  refine FZ.intro rfl (Nat.le_of_ble_eq_true rfl) (L0 := [some (.ref (f_ad E 0)), some (.int (iI a)), some (.int (iI b))]) rfl (fun G hR => ?_)
  refine g_aload_0 hR dX7_unlike_0 (g_getR hR dX7_unlike_1 flX7_34 (by decide) rfl rfl (g_iload_1 hR dX7_unlike_4 (g_callV1P hR dX7_unlike_5 mlX7_121 sh_laid.lt sh_laid.obj rfl (C_isKind h.L ha) (by decide) (Nat.le_of_ble_eq_true rfl) (g_if_eq hR 22 dX7_unlike_8 (by decide) (by split <;> omega) (fun c8 => ?_) (fun c8 => ?_)))))
  · skip
    refine g_iconst hR dX7_unlike_22 ?_
    exact g_iret hR dX7_unlike_23 rfl (by unfold sp_unlike; rw [if_neg (by omega)]) h
  · skip
    refine g_aload_0 hR dX7_unlike_11 (g_getR hR dX7_unlike_12 flX7_34 (by decide) rfl rfl (g_iload_2 hR dX7_unlike_15 (g_callV1P hR dX7_unlike_16 mlX7_121 sh_laid.lt sh_laid.obj rfl (C_isKind h.L hb) (by decide) (Nat.le_of_ble_eq_true rfl) (g_if_ne hR 24 dX7_unlike_19 (by decide) (by split <;> omega) (fun c19 => ?_) (fun c19 => ?_)))))
    · skip
      obtain ⟨k, rfl⟩ : ∃ k : Nat, a = k := ⟨a.toNat, by omega⟩
      obtain ⟨j, rfl⟩ : ∃ j : Nat, b = j := ⟨b.toNat, by omega⟩
      refine g_aload_0 hR dX7_unlike_24 (g_getR hR dX7_unlike_25 flX7_34 (by decide) rfl rfl (g_getR hR dX7_unlike_28 flX7_125 sh_laid.lt sh_laid.obj rfl (g_iload_1 hR dX7_unlike_31 (g_callV1P hR dX7_unlike_32 mlX7_128 sh_laid.marks.lt sh_laid.marks.obj rfl (Cn_at h.L.m (i := k) (by omega)) (by decide) (Nat.le_of_ble_eq_true rfl) (g_aload_0 hR dX7_unlike_35 (g_getR hR dX7_unlike_36 flX7_34 (by decide) rfl rfl (g_getR hR dX7_unlike_39 flX7_125 sh_laid.lt sh_laid.obj rfl (g_iload_2 hR dX7_unlike_42 (g_callV1P hR dX7_unlike_43 mlX7_128 sh_laid.marks.lt sh_laid.marks.obj rfl (Cn_at h.L.m (i := j) (by omega)) (by decide) (Nat.le_of_ble_eq_true rfl) (g_callS2P hR dX7_unlike_46 mlX7_153 (C_marksApart (ok.L.m k) (ok.L.m j)) (by decide) (Nat.le_of_ble_eq_true rfl) ?_))))))))))
      exact g_iret hR dX7_unlike_49 rfl (by unfold sp_unlike; rw [if_pos (by omega)]; rfl) h
    · skip
      refine g_iconst hR dX7_unlike_22 ?_
      exact g_iret hR dX7_unlike_23 rfl (by unfold sp_unlike; rw [if_neg (by omega)]) h
