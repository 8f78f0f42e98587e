
def TxM (σ : f_Mem) (t : List Nat) : Prop := ∀ i, i < t.length → σ 4 i = iI (t.getD i 0 : Nat)
def LvM (σ : f_Mem) (a : Nat) (l : List Mms) : Prop := ∀ (i : Nat) (M : Mms), l[i]? = some M → StM σ a (50 * i) M
def SnM (σ : f_Mem) (z : List Nat) : Prop := ∀ i, i < z.length → σ 15 i = iI (z.getD i 0 / 6 : Nat) ∧ σ 16 i = iI (z.getD i 0 % 6 : Nat)
def InvM (σ : f_Mem) (A : AS) : Prop := (TxM σ (At A) ∧ σ 0 8 = iI ((At A).length : Nat)) ∧ (LsM σ 1 (AL A) ∧ HdM σ (AL A)) ∧ (RwM σ 2 (Lrow (AL A)) ∧ σ 0 5 = iI ((Lrow (AL A)).length : Nat)) ∧ StM σ 3 0 (AM A) ∧ (LvM σ 8 (Ap A) ∧ σ 0 19 = iI ((Ap A).length : Nat)) ∧ (LvM σ 19 (Ak A) ∧ σ 0 32 = iI ((Ak A).length : Nat)) ∧ (SnM σ (Az A) ∧ σ 0 28 = iI ((Az A).length : Nat))
section IM
variable {σ u : f_Mem} {A : AS}
theorem InvM.tx (h : InvM σ A) : TxM σ (At A) := h.1.1
theorem InvM.tn (h : InvM σ A) : σ 0 8 = iI ((At A).length : Nat) := h.1.2
theorem InvM.ls (h : InvM σ A) : LsM σ 1 (AL A) := h.2.1.1
theorem InvM.hd (h : InvM σ A) : HdM σ (AL A) := h.2.1.2
theorem InvM.rw (h : InvM σ A) : RwM σ 2 (Lrow (AL A)) := h.2.2.1.1
theorem InvM.rn (h : InvM σ A) : σ 0 5 = iI ((Lrow (AL A)).length : Nat) := h.2.2.1.2
theorem InvM.st (h : InvM σ A) : StM σ 3 0 (AM A) := h.2.2.2.1
theorem InvM.pa (h : InvM σ A) : LvM σ 8 (Ap A) := h.2.2.2.2.1.1
theorem InvM.pn (h : InvM σ A) : σ 0 19 = iI ((Ap A).length : Nat) := h.2.2.2.2.1.2
theorem InvM.ke (h : InvM σ A) : LvM σ 19 (Ak A) := h.2.2.2.2.2.1.1
theorem InvM.kn (h : InvM σ A) : σ 0 32 = iI ((Ak A).length : Nat) := h.2.2.2.2.2.1.2
theorem InvM.sn (h : InvM σ A) : SnM σ (Az A) := h.2.2.2.2.2.2.1
theorem InvM.sl (h : InvM σ A) : σ 0 28 = iI ((Az A).length : Nat) := h.2.2.2.2.2.2.2
theorem TxM.fr {t : List Nat} (h : TxM σ t) (e : u 4 = σ 4) : TxM u t := by unfold TxM; rw [e]; exact h
theorem LvM.fr {a : Nat} {l : List Mms} (h : LvM σ a l) (e : u a = σ a) : LvM u a l := fun i M q => (h i M q).fr e
theorem SnM.fr {z : List Nat} (h : SnM σ z) (e : u 15 = σ 15) (e2 : u 16 = σ 16) : SnM u z := by unfold SnM; rw [e, e2]; exact h
theorem InvM.setS {M : Mms} (h : InvM σ A) (hf : FrM [3, 5, 6, 7, 9, 10, 11, 12, 13, 14, 17, 18] [9, 12, 13, 14, 16, 17] σ u) (hs : StM u 3 0 M) : InvM u (At A, AL A, M, Ap A, Ak A, Az A) :=
  ⟨⟨h.tx.fr (hf.1 4 (by decide) (by decide)), (hf.2 8 (by decide)).trans h.tn⟩, ⟨h.ls.fr (hf.1 1 (by decide) (by decide)), h.hd.fr (fun k hk => hf.2 k (by rcases hk with rfl | rfl | rfl <;> decide))⟩, ⟨h.rw.fr (hf.1 2 (by decide) (by decide)), (hf.2 5 (by decide)).trans h.rn⟩, hs, ⟨h.pa.fr (hf.1 8 (by decide) (by decide)), (hf.2 19 (by decide)).trans h.pn⟩, ⟨h.ke.fr (hf.1 19 (by decide) (by decide)), (hf.2 32 (by decide)).trans h.kn⟩, ⟨h.sn.fr (hf.1 15 (by decide) (by decide)) (hf.1 16 (by decide) (by decide)), (hf.2 28 (by decide)).trans h.sl⟩⟩
theorem InvM.keep (h : InvM σ A) (hf : FrM [3, 5, 6, 7, 9, 10, 11, 12, 13, 14, 17, 18] [9, 12, 13, 14, 16, 17] σ u) (hs : StM u 3 0 (AM A)) : InvM u A := h.setS hf hs
theorem InvM.setT {t : List Nat} (h : InvM σ A) (hf : FrM [4] [8] σ u) (h1 : TxM u t) (h2 : u 0 8 = iI (t.length : Nat)) : InvM u (t, A.2) :=
  ⟨⟨h1, h2⟩, ⟨h.ls.fr (hf.1 1 (by decide) (by decide)), h.hd.fr (fun k hk => hf.2 k (by rcases hk with rfl | rfl | rfl <;> decide))⟩, ⟨h.rw.fr (hf.1 2 (by decide) (by decide)), (hf.2 5 (by decide)).trans h.rn⟩, h.st.fr (hf.1 3 (by decide) (by decide)), ⟨h.pa.fr (hf.1 8 (by decide) (by decide)), (hf.2 19 (by decide)).trans h.pn⟩, ⟨h.ke.fr (hf.1 19 (by decide) (by decide)), (hf.2 32 (by decide)).trans h.kn⟩, ⟨h.sn.fr (hf.1 15 (by decide) (by decide)) (hf.1 16 (by decide) (by decide)), (hf.2 28 (by decide)).trans h.sl⟩⟩
theorem InvM.setR {row : List Nat} (h : InvM σ A) (hf : FrM [2] [5] σ u) (h1 : RwM u 2 row) (h2 : u 0 5 = iI (row.length : Nat)) : InvM u (At A, rowL (AL A) row, AM A, Ap A, Ak A, Az A) :=
  ⟨⟨h.tx.fr (hf.1 4 (by decide) (by decide)), (hf.2 8 (by decide)).trans h.tn⟩, ⟨h.ls.fr (hf.1 1 (by decide) (by decide)), h.hd.fr (fun k hk => hf.2 k (by rcases hk with rfl | rfl | rfl <;> decide))⟩, ⟨h1, h2⟩, h.st.fr (hf.1 3 (by decide) (by decide)), ⟨h.pa.fr (hf.1 8 (by decide) (by decide)), (hf.2 19 (by decide)).trans h.pn⟩, ⟨h.ke.fr (hf.1 19 (by decide) (by decide)), (hf.2 32 (by decide)).trans h.kn⟩, ⟨h.sn.fr (hf.1 15 (by decide) (by decide)) (hf.1 16 (by decide) (by decide)), (hf.2 28 (by decide)).trans h.sl⟩⟩
theorem InvM.setZ {z : List Nat} (h : InvM σ A) (hf : FrM [15, 16] [28] σ u) (h1 : SnM u z) (h2 : u 0 28 = iI (z.length : Nat)) : InvM u (At A, AL A, AM A, Ap A, Ak A, z) :=
  ⟨⟨h.tx.fr (hf.1 4 (by decide) (by decide)), (hf.2 8 (by decide)).trans h.tn⟩, ⟨h.ls.fr (hf.1 1 (by decide) (by decide)), h.hd.fr (fun k hk => hf.2 k (by rcases hk with rfl | rfl | rfl <;> decide))⟩, ⟨h.rw.fr (hf.1 2 (by decide) (by decide)), (hf.2 5 (by decide)).trans h.rn⟩, h.st.fr (hf.1 3 (by decide) (by decide)), ⟨h.pa.fr (hf.1 8 (by decide) (by decide)), (hf.2 19 (by decide)).trans h.pn⟩, ⟨h.ke.fr (hf.1 19 (by decide) (by decide)), (hf.2 32 (by decide)).trans h.kn⟩, ⟨h1, h2⟩⟩
theorem InvM.setP {l : List Mms} (h : InvM σ A) (hf : FrM [8] [19] σ u) (h1 : LvM u 8 l) (h2 : u 0 19 = iI (l.length : Nat)) : InvM u (At A, AL A, AM A, l, Ak A, Az A) :=
  ⟨⟨h.tx.fr (hf.1 4 (by decide) (by decide)), (hf.2 8 (by decide)).trans h.tn⟩, ⟨h.ls.fr (hf.1 1 (by decide) (by decide)), h.hd.fr (fun k hk => hf.2 k (by rcases hk with rfl | rfl | rfl <;> decide))⟩, ⟨h.rw.fr (hf.1 2 (by decide) (by decide)), (hf.2 5 (by decide)).trans h.rn⟩, h.st.fr (hf.1 3 (by decide) (by decide)), ⟨h1, h2⟩, ⟨h.ke.fr (hf.1 19 (by decide) (by decide)), (hf.2 32 (by decide)).trans h.kn⟩, ⟨h.sn.fr (hf.1 15 (by decide) (by decide)) (hf.1 16 (by decide) (by decide)), (hf.2 28 (by decide)).trans h.sl⟩⟩
theorem InvM.setK {l : List Mms} (h : InvM σ A) (hf : FrM [19] [32] σ u) (h1 : LvM u 19 l) (h2 : u 0 32 = iI (l.length : Nat)) : InvM u (At A, AL A, AM A, Ap A, l, Az A) :=
  ⟨⟨h.tx.fr (hf.1 4 (by decide) (by decide)), (hf.2 8 (by decide)).trans h.tn⟩, ⟨h.ls.fr (hf.1 1 (by decide) (by decide)), h.hd.fr (fun k hk => hf.2 k (by rcases hk with rfl | rfl | rfl <;> decide))⟩, ⟨h.rw.fr (hf.1 2 (by decide) (by decide)), (hf.2 5 (by decide)).trans h.rn⟩, h.st.fr (hf.1 3 (by decide) (by decide)), ⟨h.pa.fr (hf.1 8 (by decide) (by decide)), (hf.2 19 (by decide)).trans h.pn⟩, ⟨h1, h2⟩, ⟨h.sn.fr (hf.1 15 (by decide) (by decide)) (hf.1 16 (by decide) (by decide)), (hf.2 28 (by decide)).trans h.sl⟩⟩
end IM
theorem getD_snoc {l : List Nat} {x i : Nat} (h : i < (l ++ [x]).length) : (l ++ [x]).getD i 0 = if i < l.length then l.getD i 0 else x := by
  simp only [List.getD]
  by_cases q : i < l.length
  · rw [if_pos q, List.getElem?_append_left q]
  · rw [if_neg q]
    have e : i = l.length := by simp at h; omega
    subst e; simp
theorem TxM.add {σ u : f_Mem} {t : List Nat} {x : Nat} (h : TxM σ t) (hw : Wr σ u 4 t.length (iI (x : Nat))) : TxM u (t ++ [x]) := fun i hi => by
  rw [getD_snoc hi]
  by_cases q : i < t.length
  · rw [if_pos q, hw.2.1 i (by omega)]; exact h i q
  · rw [if_neg q, show i = t.length from by simp at hi; omega, hw.1]
theorem RwM.add {σ u : f_Mem} {t : List Nat} {x a : Nat} (h : RwM σ a t) (hw : Wr σ u a t.length (iI (x : Nat))) : RwM u a (t ++ [x]) := fun i hi => by
  rw [getD_snoc hi]
  by_cases q : i < t.length
  · rw [if_pos q, hw.2.1 i (by omega)]; exact h i q
  · rw [if_neg q, show i = t.length from by simp at hi; omega, hw.1]
theorem SnM.add {σ u v : f_Mem} {z : List Nat} {k d : Nat} (hd : d < 6) (h : SnM σ z) (hw : Wr σ u 15 z.length (iI (k : Nat))) (hw2 : Wr u v 16 z.length (iI (d : Nat))) : SnM v (z ++ [6 * k + d]) := fun i hi => by
  rw [getD_snoc hi, hw2.2.2 15 (by omega)]
  by_cases q : i < z.length
  · rw [if_pos q, hw.2.1 i (by omega), hw2.2.1 i (by omega), hw.2.2 16 (by omega)]; exact h i q
  · rw [if_neg q, show i = z.length from by simp at hi; omega, hw.1, hw2.1]
    exact ⟨congrArg iI (by omega), congrArg iI (by omega)⟩

theorem M_write {E : f_E} {σ : f_Mem} {A : AS} (h : InvM σ A) (ok : ASOK A) {a : Int} (ha : -2147483648 ≤ a ∧ a < 2147483648) : FZ E sM mX8_write 12 [.ref (f_ad E 0), .int (iI a)] σ (sp_write A a).1 (fun u => InvM u (sp_write A a).2) := by
  have hK1 := ok.K1
  have hK6 := ok.K6
  have hkk : AK A = (Lm (AL A)).length := rfl
  have hrl := ok.L.rl
  have hwl := ok.wl
  have hwo := ok.w
  have h6h := ok.M.2.2
  have hf6 := ok.L.f
  have hs4 := ok.L.s
  have htl := ok.1.2
  refine FZ.intro rfl (Nat.le_of_ble_eq_true rfl) (L0 := [some (.ref (f_ad E 0)), some (.int (iI a))]) rfl (fun G hR => ?_)
  refine g_iload_1 hR dX8_write_0 (g_i2l hR dX8_write_1 (by omega) (g_ldc2 hR (32) dX8_write_2 kcX8_84 (by decide) (g_ldc2 hR (126) dX8_write_5 kcX8_86 (by decide) (g_callS3P hR dX8_write_8 mlX8_78 (C8_in (by omega) (by omega) (by omega)) (by decide) (Nat.le_of_ble_eq_true rfl) (g_if_ne hR 16 dX8_write_11 (by decide) (by split <;> omega) (fun zc11 => ?_) (fun zc11 => ?_))))))
  · skip
    obtain ⟨c, rfl⟩ : ∃ c : Nat, a = c := ⟨a.toNat, by omega⟩
    refine g_aload_0 hR dX8_write_16 (g_getI hR _ dX8_write_17 flX8_88 (by decide) rfl rfl h.tn (g_sipush hR dX8_write_20 (by decide) (g_icmp_ne hR 29 dX8_write_23 (by decide) (by omega) (by omega) (fun zc23 => ?_) (fun zc23 => ?_))))
    · skip
      refine g_aload_0 hR dX8_write_29 (g_getR hR dX8_write_30 flX8_19 (by decide) rfl rfl (g_aload_0 hR dX8_write_33 (g_getI hR _ dX8_write_34 flX8_88 (by decide) rfl rfl h.tn (g_iload_1 hR dX8_write_37 (g_astU hR ((At A).length) dX8_write_38 (by decide) rfl (by decide) (by omega) (by omega) (fun zu1 hzu1 => (g_aload_0 hR dX8_write_39 (g_dup hR dX8_write_40 rfl (g_getI hR _ dX8_write_41 flX8_88 (by decide) rfl rfl ((congrFun (hzu1.2.2 0 (by omega)) 8).trans h.tn) (g_iconst hR dX8_write_44 (g_iadd hR dX8_write_45 (g_putU hR dX8_write_46 fpX8_88 (by decide) rfl rfl (fun zu2 hzu2 => (g_aload_0 hR dX8_write_49 (g_getI hR _ dX8_write_50 flX8_88 (by decide) rfl rfl hzu2.1 ?_)))))))))))))))
      exact g_iret hR dX8_write_53 rfl (by unfold sp_write; rw [if_pos (by omega), if_neg (by omega)]; skip) (by unfold sp_write; rw [if_pos (by omega), if_neg (by omega)]; exact h.setT ((FrM.ar hzu1 (by decide) (by decide)).tr (FrM.fd hzu2 (by decide))) ((h.tx.add hzu1).fr (hzu2.2.2 4 (by omega))) (by rw [hzu2.1, List.length_append]; rfl))
    · skip
      refine g_bipush hR dX8_write_26 (by decide) ?_
      exact g_iret hR dX8_write_28 rfl (by unfold sp_write; rw [if_pos (by omega), if_pos (by omega)]; skip) (by unfold sp_write; rw [if_pos (by omega), if_pos (by omega)]; exact h)
  · skip
    refine g_iconst hR dX8_write_14 ?_
    exact g_iret hR dX8_write_15 rfl (by unfold sp_write; rw [if_neg (by omega)]; skip) (by unfold sp_write; rw [if_neg (by omega)]; exact h)
theorem M_wipe {E : f_E} {σ : f_Mem} {A : AS} (h : InvM σ A) (ok : ASOK A) : FZ E sM mX8_wipe 12 [.ref (f_ad E 0)] σ (sp_wipe A).1 (fun u => InvM u (sp_wipe A).2) := by
  refine FZ.intro rfl (Nat.le_of_ble_eq_true rfl) (L0 := [some (.ref (f_ad E 0)), none]) rfl (fun G hR => ?_)
  refine g_aload_0 hR dX8_wipe_0 (g_getI hR _ dX8_wipe_1 flX8_88 (by decide) rfl rfl h.tn (g_istore_1 hR dX8_wipe_4 rfl (g_aload_0 hR dX8_wipe_5 (g_iconst hR dX8_wipe_6 (g_putU hR dX8_wipe_7 fpX8_88 (by decide) rfl rfl (fun zu1 hzu1 => (g_iload_1 hR dX8_wipe_10 ?_)))))))
  exact g_iret hR dX8_wipe_11 rfl rfl (h.setT (FrM.fd hzu1 (by decide)) (fun i hi => absurd hi (by simp)) hzu1.1)

theorem LsM.at5 {σ : f_Mem} {a : Nat} {L : Les} (h : LsM σ a L) {k : Nat} (hk : k < (Lm L).length) {w : Int} (hw : 0 ≤ w ∧ w < 5) : σ a (5 * k + w.toNat) = iI (if w = 0 then ((Lm L).getD k 0 : Nat) else if w = 1 then ((Lr L).getD k 0 : Nat) else if w = 2 then ((Lp L).getD k 0 : Nat) else if w = 3 then ((Lw L).getD k 0 : Nat) else ((Lc L).getD k 0 : Nat)) := by
  obtain ⟨h0, h1, h2, h3, h4⟩ := h k hk
  have : w = 0 ∨ w = 1 ∨ w = 2 ∨ w = 3 ∨ w = 4 := by omega
  rcases this with rfl | rfl | rfl | rfl | rfl
  · exact h0
  · exact h1
  · exact h2
  · exact h3
  · exact h4

theorem M_kind {E : f_E} {σ : f_Mem} {A : AS} (h : InvM σ A) (ok : ASOK A) {a w : Int} (ha : -2147483648 ≤ a ∧ a < 2147483648) (hw : -2147483648 ≤ w ∧ w < 2147483648) : FZ E sM mX8_kind 12 [.ref (f_ad E 0), .int (iI a), .int (iI w)] σ (sp_kind A a w) (fun u => InvM u A) := by
  have hK1 := ok.K1
  have hK6 := ok.K6
  have hkk : AK A = (Lm (AL A)).length := rfl
  have hrl := ok.L.rl
  have hwl := ok.wl
  have hwo := ok.w
  have h6h := ok.M.2.2
  have hf6 := ok.L.f
  have hs4 := ok.L.s
  refine FZ.intro rfl (Nat.le_of_ble_eq_true rfl) (L0 := [some (.ref (f_ad E 0)), some (.int (iI a)), some (.int (iI w))]) rfl (fun G hR => ?_)
  refine g_aload_0 hR dX8_kind_0 (g_iload_1 hR dX8_kind_1 (g_callV1P hR dX8_kind_2 mlX8_151 (by decide) rfl rfl (C8_isKind h.hd ok.L ha) (by decide) (Nat.le_of_ble_eq_true rfl) (g_if_eq hR 20 dX8_kind_5 (by decide) (by split <;> omega) (fun zc5 => ?_) (fun zc5 => ?_))))
  · skip
    refine g_iconst hR dX8_kind_20 ?_
    exact g_iret hR dX8_kind_21 rfl (by unfold sp_kind; rw [if_neg (by omega)]; skip) h
  · skip
    refine g_iload_2 hR dX8_kind_8 (g_i2l hR dX8_kind_9 (by omega) (g_lconst hR 0 dX8_kind_10 (by decide) (g_ldc2 hR (5) dX8_kind_11 kcX8_82 (by decide) (g_callS3P hR dX8_kind_14 mlX8_78 (C8_in (by omega) (by omega) (by omega)) (by decide) (Nat.le_of_ble_eq_true rfl) (g_if_ne hR 22 dX8_kind_17 (by decide) (by split <;> omega) (fun zc17 => ?_) (fun zc17 => ?_))))))
    · skip
      obtain ⟨k, rfl⟩ : ∃ k : Nat, a = k := ⟨a.toNat, by omega⟩
      refine g_iload_2 hR dX8_kind_22 (g_iconst hR dX8_kind_23 (g_icmp_ne hR 39 dX8_kind_24 (by decide) (by omega) (by omega) (fun zc24 => ?_) (fun zc24 => ?_)))
      · skip
        refine g_aload_0 hR dX8_kind_39 (g_getR hR dX8_kind_40 flX8_7 (by decide) rfl rfl (g_iconst hR dX8_kind_43 (g_iload_1 hR dX8_kind_44 (g_imul hR dX8_kind_45 (g_iload_2 hR dX8_kind_46 (g_iadd hR dX8_kind_47 (g_aldU hR _ dX8_kind_48 (by decide) rfl (by decide) (by omega) (h.ls.at5 (k := k) (by omega) (w := w) (by omega)) (by omega) ?_)))))))
        exact g_iret hR dX8_kind_49 rfl (by rcases (show w = 0 ∨ w = 1 ∨ w = 2 ∨ w = 3 ∨ w = 4 from by omega) with rfl | rfl | rfl | rfl | rfl <;> (unfold sp_kind; rw [if_pos (show 0 ≤ (k : Int) ∧ (k : Int) < AK A from by omega)]; rfl)) h
      · skip
        refine g_aload_0 hR dX8_kind_27 (g_getR hR dX8_kind_28 flX8_16 (by decide) rfl rfl (g_bipush hR dX8_kind_31 (by decide) (g_iload_1 hR dX8_kind_33 (g_iadd hR dX8_kind_34 (g_aldU hR _ dX8_kind_35 (by decide) rfl (by decide) (by omega) (h.st.hd (k := k) (by omega)) (by omega) (g_goto hR 49 dX8_kind_36 (by decide) ?_))))))
        obtain rfl : w = 5 := by omega
        exact g_iret hR dX8_kind_49 rfl (by unfold sp_kind; rw [if_pos (by omega)]; rfl) h
    · skip
      refine g_iconst hR dX8_kind_20 ?_
      exact g_iret hR dX8_kind_21 rfl (by unfold sp_kind; rw [if_pos (by omega), if_neg (by omega), if_neg (by omega), if_neg (by omega), if_neg (by omega), if_neg (by omega), if_neg (by omega)]; skip) h
theorem M_errand {E : f_E} {σ : f_Mem} {A : AS} (h : InvM σ A) (ok : ASOK A) {a : Int} (ha : -2147483648 ≤ a ∧ a < 2147483648) : FZ E sM mX8_errand 12 [.ref (f_ad E 0), .int (iI a)] σ (sp_errand A a) (fun u => InvM u A) := by
  have hK1 := ok.K1
  have hK6 := ok.K6
  have hkk : AK A = (Lm (AL A)).length := rfl
  have hrl := ok.L.rl
  have hwl := ok.wl
  have hwo := ok.w
  have h6h := ok.M.2.2
  have hf6 := ok.L.f
  have hs4 := ok.L.s
  refine FZ.intro rfl (Nat.le_of_ble_eq_true rfl) (L0 := [some (.ref (f_ad E 0)), some (.int (iI a))]) rfl (fun G hR => ?_)
  refine g_iload_1 hR dX8_errand_0 (g_if_ge hR 8 dX8_errand_1 (by decide) (by omega) (fun zc1 => ?_) (fun zc1 => ?_))
  · skip
    obtain ⟨k, rfl⟩ : ∃ k : Nat, a = k := ⟨a.toNat, by omega⟩
    refine g_iload_1 hR dX8_errand_8 (g_aload_0 hR dX8_errand_9 (g_getI hR _ dX8_errand_10 flX8_71 (by decide) rfl rfl h.rn (g_icmp_ge hR 25 dX8_errand_13 (by decide) (by omega) (by omega) (fun zc13 => ?_) (fun zc13 => ?_))))
    · skip
      refine g_bipush hR dX8_errand_25 (by decide) ?_
      exact g_iret hR dX8_errand_27 rfl (by unfold sp_errand; rw [if_neg (by omega), if_neg (by omega)]; skip) h
    · skip
      refine g_aload_0 hR dX8_errand_16 (g_getR hR dX8_errand_17 flX8_13 (by decide) rfl rfl (g_iload_1 hR dX8_errand_20 (g_aldU hR _ dX8_errand_21 (by decide) rfl (by decide) (by omega) (h.rw k (by omega)) (by omega) (g_goto hR 27 dX8_errand_22 (by decide) ?_))))
      exact g_iret hR dX8_errand_27 rfl (by unfold sp_errand; rw [if_neg (by omega), if_pos (by omega)]; rfl) h
  · skip
    refine g_iconst hR dX8_errand_4 (g_goto hR 27 dX8_errand_5 (by decide) ?_)
    exact g_iret hR dX8_errand_27 rfl (by unfold sp_errand; rw [if_pos (by omega)]; skip) h
theorem M_word {E : f_E} {σ : f_Mem} {A : AS} (h : InvM σ A) (ok : ASOK A) {a : Int} (ha : -2147483648 ≤ a ∧ a < 2147483648) : FZ E sM mX8_word 12 [.ref (f_ad E 0), .int (iI a)] σ (sp_word A a) (fun u => InvM u A) := by
  have hK1 := ok.K1
  have hK6 := ok.K6
  have hkk : AK A = (Lm (AL A)).length := rfl
  have hrl := ok.L.rl
  have hwl := ok.wl
  have hwo := ok.w
  have h6h := ok.M.2.2
  have hf6 := ok.L.f
  have hs4 := ok.L.s
  have hmany : σ 3 (0 + 40) = iI ((AM A).1.length : Nat) := by rw [h.st.many, show min 40 (AM A).1.length = (AM A).1.length from by omega]
  have hword : ∀ k, k < (AM A).1.length → σ 3 (0 + ((AM A).1.length - 1 - k)) = iI ((AM A).1.getD k 0 : Nat) := fun k hk => by
    rw [h.st.word (i := (AM A).1.length - 1 - k) (by omega), show min 40 (AM A).1.length - 1 - ((AM A).1.length - 1 - k) = k from by omega]
  refine FZ.intro rfl (Nat.le_of_ble_eq_true rfl) (L0 := [some (.ref (f_ad E 0)), some (.int (iI a))]) rfl (fun G hR => ?_)
  refine g_iload_1 hR dX8_word_0 (g_if_ge hR 8 dX8_word_1 (by decide) (by omega) (fun zc1 => ?_) (fun zc1 => ?_))
  · skip
    obtain ⟨k, rfl⟩ : ∃ k : Nat, a = k := ⟨a.toNat, by omega⟩
    refine g_iload_1 hR dX8_word_8 (g_aload_0 hR dX8_word_9 (g_getR hR dX8_word_10 flX8_16 (by decide) rfl rfl (g_bipush hR dX8_word_13 (by decide) (g_aldU hR _ dX8_word_15 (by decide) rfl (by decide) (by omega) hmany (by omega) (g_icmp_ge hR 38 dX8_word_16 (by decide) (by omega) (by omega) (fun zc16 => ?_) (fun zc16 => ?_))))))
    · skip
      refine g_bipush hR dX8_word_38 (by decide) ?_
      exact g_iret hR dX8_word_40 rfl (by unfold sp_word; rw [if_neg (by omega), if_neg (by omega)]; skip) h
    · skip
      refine g_aload_0 hR dX8_word_19 (g_getR hR dX8_word_20 flX8_16 (by decide) rfl rfl (g_aload_0 hR dX8_word_23 (g_getR hR dX8_word_24 flX8_16 (by decide) rfl rfl (g_bipush hR dX8_word_27 (by decide) (g_aldU hR _ dX8_word_29 (by decide) rfl (by decide) (by omega) hmany (by omega) (g_iconst hR dX8_word_30 (g_isub hR dX8_word_31 (g_iload_1 hR dX8_word_32 (g_isub hR dX8_word_33 (g_aldU hR _ dX8_word_34 (by decide) rfl (by decide) (by omega) (hword k (by omega)) (by omega) (g_goto hR 40 dX8_word_35 (by decide) ?_)))))))))))
      exact g_iret hR dX8_word_40 rfl (by unfold sp_word; rw [if_neg (by omega), if_pos (by omega)]; rfl) h
  · skip
    refine g_iconst hR dX8_word_4 (g_goto hR 40 dX8_word_5 (by decide) ?_)
    exact g_iret hR dX8_word_40 rfl (by unfold sp_word; rw [if_pos (by omega)]; skip) h
theorem M_unlike {E : f_E} {σ : f_Mem} {A : AS} (h : InvM σ A) (ok : ASOK A) {a b : Int} (ha : -2147483648 ≤ a ∧ a < 2147483648) (hb : -2147483648 ≤ b ∧ b < 2147483648) : FZ E sM mX8_unlike 12 [.ref (f_ad E 0), .int (iI a), .int (iI b)] σ (sp_unlike A a b) (fun u => InvM u A) := by
  have hK1 := ok.K1
  have hK6 := ok.K6
  have hkk : AK A = (Lm (AL A)).length := rfl
  have hrl := ok.L.rl
  have hwl := ok.wl
  have hwo := ok.w
  have h6h := ok.M.2.2
  have hf6 := ok.L.f
  have hs4 := ok.L.s
  refine FZ.intro rfl (Nat.le_of_ble_eq_true rfl) (L0 := [some (.ref (f_ad E 0)), some (.int (iI a)), some (.int (iI b))]) rfl (fun G hR => ?_)
  refine g_aload_0 hR dX8_unlike_0 (g_iload_1 hR dX8_unlike_1 (g_callV1P hR dX8_unlike_2 mlX8_151 (by decide) rfl rfl (C8_isKind h.hd ok.L ha) (by decide) (Nat.le_of_ble_eq_true rfl) (g_if_eq hR 25 dX8_unlike_5 (by decide) (by split <;> omega) (fun zc5 => ?_) (fun zc5 => ?_))))
  · skip
    refine g_iconst hR dX8_unlike_25 ?_
    exact g_iret hR dX8_unlike_26 rfl (by unfold sp_unlike; rw [if_neg (by omega)]; skip) h
  · skip
    refine g_aload_0 hR dX8_unlike_8 (g_iload_2 hR dX8_unlike_9 (g_callV1P hR dX8_unlike_10 mlX8_151 (by decide) rfl rfl (C8_isKind h.hd ok.L hb) (by decide) (Nat.le_of_ble_eq_true rfl) (g_if_eq hR 25 dX8_unlike_13 (by decide) (by split <;> omega) (fun zc13 => ?_) (fun zc13 => ?_))))
    · skip
      refine g_iconst hR dX8_unlike_25 ?_
      exact g_iret hR dX8_unlike_26 rfl (by unfold sp_unlike; rw [if_neg (by omega)]; skip) h
    · skip
      obtain ⟨k, rfl⟩ : ∃ k : Nat, a = k := ⟨a.toNat, by omega⟩
      obtain ⟨j, rfl⟩ : ∃ j : Nat, b = j := ⟨b.toNat, by omega⟩
      refine g_aload_0 hR dX8_unlike_16 (g_iload_1 hR dX8_unlike_17 (g_iload_2 hR dX8_unlike_18 (g_callV2P hR dX8_unlike_19 mlX8_158 (by decide) rfl rfl (C8_unlikeOf h.ls ok.L (k := k) (j := j) (by omega) (by omega)) (by decide) (Nat.le_of_ble_eq_true rfl) (g_goto hR 26 dX8_unlike_22 (by decide) ?_))))
      exact g_iret hR dX8_unlike_26 rfl (by unfold sp_unlike; rw [if_pos (by omega)]; rfl) h
theorem M_does {E : f_E} {σ : f_Mem} {A : AS} (h : InvM σ A) (ok : ASOK A) {s a : Int} (hs : -2147483648 ≤ s ∧ s < 2147483648) (ha : -2147483648 ≤ a ∧ a < 2147483648) : FZ E sM mX8_does 12 [.ref (f_ad E 0), .int (iI s), .int (iI a)] σ (sp_does A s a) (fun u => InvM u A) := by
  have hK1 := ok.K1
  have hK6 := ok.K6
  have hkk : AK A = (Lm (AL A)).length := rfl
  have hrl := ok.L.rl
  have hwl := ok.wl
  have hwo := ok.w
  have h6h := ok.M.2.2
  have hf6 := ok.L.f
  have hs4 := ok.L.s
  refine FZ.intro rfl (Nat.le_of_ble_eq_true rfl) (L0 := [some (.ref (f_ad E 0)), some (.int (iI s)), some (.int (iI a))]) rfl (fun G hR => ?_)
  refine g_iload_1 hR dX8_does_0 (g_i2l hR dX8_does_1 (by omega) (g_lconst hR 0 dX8_does_2 (by decide) (g_ldc2 hR (3) dX8_does_3 kcX8_180 (by decide) (g_callS3P hR dX8_does_6 mlX8_78 (C8_in (by omega) (by omega) (by omega)) (by decide) (Nat.le_of_ble_eq_true rfl) (g_if_eq hR 33 dX8_does_9 (by decide) (by split <;> omega) (fun zc9 => ?_) (fun zc9 => ?_))))))
  · skip
    refine g_iconst hR dX8_does_33 ?_
    exact g_iret hR dX8_does_34 rfl (by unfold sp_does; rw [if_neg (by omega)]; skip) h
  · skip
    refine g_aload_0 hR dX8_does_12 (g_iload_2 hR dX8_does_13 (g_callV1P hR dX8_does_14 mlX8_151 (by decide) rfl rfl (C8_isKind h.hd ok.L ha) (by decide) (Nat.le_of_ble_eq_true rfl) (g_if_eq hR 33 dX8_does_17 (by decide) (by split <;> omega) (fun zc17 => ?_) (fun zc17 => ?_))))
    · skip
      refine g_iconst hR dX8_does_33 ?_
      exact g_iret hR dX8_does_34 rfl (by unfold sp_does; rw [if_neg (by omega)]; skip) h
    · skip
      obtain ⟨q, rfl⟩ : ∃ q : Nat, s = q := ⟨s.toNat, by omega⟩
      obtain ⟨k, rfl⟩ : ∃ k : Nat, a = k := ⟨a.toNat, by omega⟩
      refine g_aload_0 hR dX8_does_20 (g_iload_1 hR dX8_does_21 (g_aload_0 hR dX8_does_22 (g_getI hR _ dX8_does_23 flX8_139 (by decide) rfl rfl h.hd.2.2 (g_iload_2 hR dX8_does_26 (g_callV3P hR dX8_does_27 mlX8_166 (by decide) rfl rfl (C8_doesBy h.st h.ls ok.L hwo (s := q) (k := k) (by omega) hf6 (by omega)) (by decide) (Nat.le_of_ble_eq_true rfl) (g_goto hR 34 dX8_does_30 (by decide) ?_))))))
      exact g_iret hR dX8_does_34 rfl (by unfold sp_does; rw [if_pos (by omega)]; rfl) h

theorem LvM.tail {σ u : f_Mem} {l : List Mms} (hl : l.length ≤ 8) (h : LvM σ 8 l) (hc : ∀ i, i < 350 → u 8 i = σ 8 (i + 50)) : LvM u 8 l.tail := fun i M q => by
  have q2 : l[i + 1]? = some M := by rw [List.getElem?_tail] at q; exact q
  have hi := (List.getElem?_eq_some_iff.mp q2).1
  exact (h (i + 1) M q2).cp (fun x hx => by rw [hc (50 * i + x) (by omega), show 50 * i + x + 50 = 50 * (i + 1) + x from by omega])
theorem LvM.add {σ u : f_Mem} {a b : Nat} {l : List Mms} {M : Mms} (h : LvM σ a l) (hs : StM σ b 0 M) (hc : Cp σ u a (50 * l.length) b 0 50) (ho : ∀ i, i < 50 * l.length → u a i = σ a i) : LvM u a (l ++ [M]) := fun i N q => by
  by_cases e : i < l.length
  · rw [List.getElem?_append_left e] at q
    exact (h i N q).cp (fun x hx => ho _ (by omega))
  · have hi : i < (l ++ [M]).length := (List.getElem?_eq_some_iff.mp q).1
    simp at hi
    have e2 : i = l.length := by omega
    subst e2
    simp at q
    subst q
    exact hc.st hs
theorem LvM.sub {σ : f_Mem} {a : Nat} {l l2 : List Mms} (h : LvM σ a l) (hl : ∀ (i : Nat) (M : Mms), l2[i]? = some M → l[i]? = some M) : LvM σ a l2 := fun i M q => h i M (hl i M q)
theorem dropLast_get {l : List Mms} {i : Nat} {M : Mms} (h : l.dropLast[i]? = some M) : l[i]? = some M := by
  have hi := (List.getElem?_eq_some_iff.mp h).1
  rw [List.length_dropLast] at hi
  rw [List.dropLast_eq_take, List.getElem?_take_of_lt hi] at h
  exact h
theorem StM.day {u : f_Mem} {a o : Nat} {L : Les} {s f k : Nat} {M : Mms} (h : StM u a o (dayU L s f k M)) (hl : M.1.length ≤ 40) : StM u a o (dayM L M k (does L s f k M.1)) := by
  have h2 := h.take
  have e : (dayU L s f k M).1.take 40 = (dayM L M k (does L s f k M.1)).1 := by
    show (dayR L s f k M.1).take 40 = if oc L k (does L s f k M.1) = 0 then M.1 else _
    unfold dayR
    split
    · exact List.take_of_length_le hl
    · rfl
  rw [e] at h2
  exact h2
theorem Cp.rf {σ : f_Mem} {a p b o : Nat} : Cp σ σ a p b o 0 := fun _ hi => absurd hi (by omega)

theorem C8_note {E : f_E} {σ : f_Mem} {A : AS} (h : InvM σ A) (ok : ASOK A) : FV E sM mX8_note 0 [.ref (f_ad E 0)] σ (fun u => InvM u (At A, AL A, AM A, pushP A, Ak A, Az A)) := by
  have hpl := ok.2.2.2.2.1.2
  refine FV.intro rfl (Nat.le_of_ble_eq_true rfl) (L0 := [some (.ref (f_ad E 0)), none]) rfl (fun G hR => ?_)
  have k49 : ∀ (v : f_Mem) (l : List Mms) (x1 : Option Value), InvM v (At A, AL A, AM A, l, Ak A, Az A) → l.length < 8 → pushP A = l ++ [AM A] → G 49 [some (.ref (f_ad E 0)), x1] [] v := by
    intro v l x1 hI hl hp
    refine g_iconst hR dX8_note_49 (g_istore_1 hR dX8_note_50 rfl ?_)
    have loop : ∀ (mm : Nat) (j : Nat) (u : f_Mem), mm = 50 - j → j ≤ 50 → Cp v u 8 (50 * l.length) 3 0 j → FrM [8] [] v u → (∀ i, i < 50 * l.length → u 8 i = v 8 i) → G 51 [some (.ref (f_ad E 0)), some (.int (iI j))] [] u := by
      intro mm
      induction mm using Nat.strongRecOn with
      | ind mm ih =>
        intro j u hm hj hc hF ho
        have hal : (Ap (At A, AL A, AM A, l, Ak A, Az A)).length = l.length := rfl
        refine g_iload_1 hR dX8_note_51 (g_bipush hR dX8_note_52 (by decide) (g_icmp_ge hR 83 dX8_note_54 (by decide) (by omega) (by omega) (fun zc54 => ?_) (fun zc54 => ?_)))
        · skip
          refine g_aload_0 hR dX8_note_83 (g_dup hR dX8_note_84 rfl (g_getI hR _ dX8_note_85 flX8_142 (by decide) rfl rfl ((hF.2 19 (by decide)).trans hI.pn) (g_iconst hR dX8_note_88 (g_iadd hR dX8_note_89 (g_putU hR dX8_note_90 fpX8_142 (by decide) rfl rfl (fun zu1 hzu1 => ?_))))))
          obtain rfl : j = 50 := by omega
          exact g_vret hR dX8_note_93 rfl (by rw [hp]; exact hI.setP ((hF.mono (by decide) (by decide)).tr (FrM.fd hzu1 (by decide))) ((hI.pa.add hI.st hc ho).fr (hzu1.2.2 8 (by omega))) (by rw [hzu1.1, List.length_append]; rfl))
        · skip
          refine g_aload_0 hR dX8_note_57 (g_getR hR dX8_note_58 flX8_31 (by decide) rfl rfl (g_bipush hR dX8_note_61 (by decide) (g_aload_0 hR dX8_note_63 (g_getI hR _ dX8_note_64 flX8_142 (by decide) rfl rfl ((hF.2 19 (by decide)).trans hI.pn) (g_imul hR dX8_note_67 (g_iload_1 hR dX8_note_68 (g_iadd hR dX8_note_69 (g_aload_0 hR dX8_note_70 (g_getR hR dX8_note_71 flX8_16 (by decide) rfl rfl (g_iload_1 hR dX8_note_74 (g_aldU hR _ dX8_note_75 (by decide) rfl (by decide) (by omega) (iI_of (u 3 (0 + j))) (by omega) (g_astU hR (50 * l.length + j) dX8_note_76 (by decide) rfl (by decide) (by omega) (by have : (((l : List Mms), Ak A, Az A).1.length : Int) = (l.length : Int) := rfl; omega) (fun zu1 hzu1 => (g_iinc_1 hR dX8_note_77 rfl (g_goto hR 51 dX8_note_80 (by decide) ?_)))))))))))))))
          exact ih (50 - (j + 1)) (by omega) (j + 1) zu1 rfl (by omega) (hc.step (congrFun (hF.1 3 (by decide) (by decide)) _) hzu1) (hF.tr (FrM.ar hzu1 (by decide) (by decide))) (fun i hi => (hzu1.2.1 i (by omega)).trans (ho i hi))
    exact loop 50 0 v (by omega) (by omega) Cp.rf FrM.rf (fun _ _ => rfl)
  refine g_aload_0 hR dX8_note_0 (g_getI hR _ dX8_note_1 flX8_142 (by decide) rfl rfl h.pn (g_bipush hR dX8_note_4 (by decide) (g_icmp_ne hR 49 dX8_note_6 (by decide) (by omega) (by omega) (fun zc6 => ?_) (fun zc6 => ?_))))
  · skip
    exact k49 σ (Ap A) _ h (by omega) (by unfold pushP; rw [if_pos (by omega)])
  · skip
    refine g_iconst hR dX8_note_9 (g_istore_1 hR dX8_note_10 rfl ?_)
    have loop : ∀ (mm : Nat) (j : Nat) (u : f_Mem), mm = 350 - j → j ≤ 350 → (∀ i, i < j → u 8 i = σ 8 (i + 50)) → (∀ i, j ≤ i → u 8 i = σ 8 i) → FrM [8] [] σ u → G 11 [some (.ref (f_ad E 0)), some (.int (iI j))] [] u := by
      intro mm
      induction mm using Nat.strongRecOn with
      | ind mm ih =>
        intro j u hm hj h1 h2 hF
        refine g_iload_1 hR dX8_note_11 (g_sipush hR dX8_note_12 (by decide) (g_icmp_ge hR 39 dX8_note_15 (by decide) (by omega) (by omega) (fun zc15 => ?_) (fun zc15 => ?_)))
        · skip
          refine g_aload_0 hR dX8_note_39 (g_dup hR dX8_note_40 rfl (g_getI hR _ dX8_note_41 flX8_142 (by decide) rfl rfl ((hF.2 19 (by decide)).trans h.pn) (g_iconst hR dX8_note_44 (g_isub hR dX8_note_45 (g_putU hR dX8_note_46 fpX8_142 (by decide) rfl rfl (fun zu1 hzu1 => ?_))))))
          obtain rfl : j = 350 := by omega
          exact k49 zu1 (Ap A).tail _ (h.setP ((hF.mono (by decide) (by decide)).tr (FrM.fd hzu1 (by decide))) ((h.pa.tail hpl h1).fr (hzu1.2.2 8 (by omega))) (by rw [hzu1.1, List.length_tail]; exact congrArg iI (by omega))) (by rw [List.length_tail]; omega) (by unfold pushP; rw [if_neg (by omega)])
        · skip
          refine g_aload_0 hR dX8_note_18 (g_getR hR dX8_note_19 flX8_31 (by decide) rfl rfl (g_iload_1 hR dX8_note_22 (g_aload_0 hR dX8_note_23 (g_getR hR dX8_note_24 flX8_31 (by decide) rfl rfl (g_iload_1 hR dX8_note_27 (g_bipush hR dX8_note_28 (by decide) (g_iadd hR dX8_note_30 (g_aldU hR _ dX8_note_31 (by decide) rfl (by decide) (by omega) (iI_of (u 8 (j + 50))) (by omega) (g_astU hR (j) dX8_note_32 (by decide) rfl (by decide) (by omega) (by omega) (fun zu1 hzu1 => (g_iinc_1 hR dX8_note_33 rfl (g_goto hR 11 dX8_note_36 (by decide) ?_))))))))))))
          refine ih (350 - (j + 1)) (by omega) (j + 1) zu1 rfl (by omega) (fun i hi => ?_) (fun i hi => (hzu1.2.1 i (by omega)).trans (h2 i (by omega))) (hF.tr (FrM.ar hzu1 (by decide) (by decide)))
          by_cases q : i = j
          · rw [q, hzu1.1, ← iI_of]; exact h2 (j + 50) (by omega)
          · rw [hzu1.2.1 i q]; exact h1 i (by omega)
    exact loop 350 0 σ (by omega) (by omega) (fun i hi => absurd hi (by omega)) (fun _ _ => rfl) FrM.rf
theorem M_hand {E : f_E} {σ : f_Mem} {A : AS} (h : InvM σ A) (ok : ASOK A) {a : Int} (ha : -2147483648 ≤ a ∧ a < 2147483648) : FZ E sM mX8_hand 12 [.ref (f_ad E 0), .int (iI a)] σ (sp_hand A a).1 (fun u => InvM u (sp_hand A a).2) := by
  have hK1 := ok.K1
  have hK6 := ok.K6
  have hkk : AK A = (Lm (AL A)).length := rfl
  have hrl := ok.L.rl
  have hwl := ok.wl
  have hwo := ok.w
  have h6h := ok.M.2.2
  have hf6 := ok.L.f
  have hs4 := ok.L.s
  refine FZ.intro rfl (Nat.le_of_ble_eq_true rfl) (L0 := [some (.ref (f_ad E 0)), some (.int (iI a))]) rfl (fun G hR => ?_)
  refine g_aload_0 hR dX8_hand_0 (g_iload_1 hR dX8_hand_1 (g_callV1P hR dX8_hand_2 mlX8_151 (by decide) rfl rfl (C8_isKind h.hd ok.L ha) (by decide) (Nat.le_of_ble_eq_true rfl) (g_if_ne hR 10 dX8_hand_5 (by decide) (by split <;> omega) (fun zc5 => ?_) (fun zc5 => ?_))))
  · skip
    obtain ⟨k, rfl⟩ : ∃ k : Nat, a = k := ⟨a.toNat, by omega⟩
    refine g_aload_0 hR dX8_hand_10 (g_callV0V hR dX8_hand_11 mlX8_182 (by decide) rfl rfl (C8_note h ok) (by decide) (Nat.le_of_ble_eq_true rfl) (fun zu1 hzu1 => (g_aload_0 hR dX8_hand_14 (g_aload_0 hR dX8_hand_15 (g_getI hR _ dX8_hand_16 flX8_136 (by decide) rfl rfl hzu1.hd.2.1 (g_aload_0 hR dX8_hand_19 (g_getI hR _ dX8_hand_20 flX8_139 (by decide) rfl rfl hzu1.hd.2.2 (g_iload_1 hR dX8_hand_23 (g_callV3Z hR dX8_hand_24 mlX8_185 (by decide) rfl rfl (C8_day (L := AL A) (M := AM A) hzu1.st hzu1.ls ok.L hwo h6h (k := k) hs4 hf6 (by omega)) (by decide) (Nat.le_of_ble_eq_true rfl) (fun zu2 hzu2 => ?_))))))))))
    exact g_iret hR dX8_hand_27 rfl (by unfold sp_hand; rw [if_pos (by omega)]; rfl) (by unfold sp_hand; rw [if_pos (by omega)]; exact hzu1.setS (hzu2.2.2.mono (by decide) (by decide)) (hzu2.1.day hwl))
  · skip
    refine g_iconst hR dX8_hand_8 ?_
    exact g_iret hR dX8_hand_9 rfl (by unfold sp_hand; rw [if_neg (by omega)]; skip) (by unfold sp_hand; rw [if_neg (by omega)]; exact h)
theorem M_teach {E : f_E} {σ : f_Mem} {A : AS} (h : InvM σ A) (ok : ASOK A) {a d : Int} (ha : -2147483648 ≤ a ∧ a < 2147483648) (hd : -2147483648 ≤ d ∧ d < 2147483648) : FZ E sM mX8_teach 12 [.ref (f_ad E 0), .int (iI a), .int (iI d)] σ (sp_teach A a d).1 (fun u => InvM u (sp_teach A a d).2) := by
  have hK1 := ok.K1
  have hK6 := ok.K6
  have hkk : AK A = (Lm (AL A)).length := rfl
  have hrl := ok.L.rl
  have hwl := ok.wl
  have hwo := ok.w
  have h6h := ok.M.2.2
  have hf6 := ok.L.f
  have hs4 := ok.L.s
  refine FZ.intro rfl (Nat.le_of_ble_eq_true rfl) (L0 := [some (.ref (f_ad E 0)), some (.int (iI a)), some (.int (iI d))]) rfl (fun G hR => ?_)
  refine g_aload_0 hR dX8_teach_0 (g_iload_1 hR dX8_teach_1 (g_callV1P hR dX8_teach_2 mlX8_151 (by decide) rfl rfl (C8_isKind h.hd ok.L ha) (by decide) (Nat.le_of_ble_eq_true rfl) (g_if_eq hR 15 dX8_teach_5 (by decide) (by split <;> omega) (fun zc5 => ?_) (fun zc5 => ?_))))
  · skip
    refine g_iconst hR dX8_teach_15 ?_
    exact g_iret hR dX8_teach_16 rfl (by unfold sp_teach; rw [if_neg (by omega)]; skip) (by unfold sp_teach; rw [if_neg (by omega)]; exact h)
  · skip
    refine g_iload_2 hR dX8_teach_8 (g_callS1P hR dX8_teach_9 mlX8_103 (C8_isDoing hd) (by decide) (Nat.le_of_ble_eq_true rfl) (g_if_ne hR 17 dX8_teach_12 (by decide) (by split <;> omega) (fun zc12 => ?_) (fun zc12 => ?_)))
    · skip
      obtain ⟨k, rfl⟩ : ∃ k : Nat, a = k := ⟨a.toNat, by omega⟩
      obtain ⟨j, rfl⟩ : ∃ j : Nat, d = j := ⟨d.toNat, by omega⟩
      refine g_aload_0 hR dX8_teach_17 (g_callV0V hR dX8_teach_18 mlX8_182 (by decide) rfl rfl (C8_note h ok) (by decide) (Nat.le_of_ble_eq_true rfl) (fun zu1 hzu1 => (g_aload_0 hR dX8_teach_21 (g_iload_1 hR dX8_teach_22 (g_iload_2 hR dX8_teach_23 (g_callV2V hR dX8_teach_24 mlX8_176 (by decide) rfl rfl (C8_hear (k := k) (d := j) hzu1.st) (by decide) (Nat.le_of_ble_eq_true rfl) (fun zu2 hzu2 => (g_aload_0 hR dX8_teach_27 (g_getR hR dX8_teach_28 flX8_16 (by decide) rfl rfl (g_bipush hR dX8_teach_31 (by decide) (g_aldU hR _ dX8_teach_33 (by decide) rfl (by decide) (by omega) hzu2.1.many (by omega) ?_)))))))))))
      exact g_iret hR dX8_teach_34 rfl (by unfold sp_teach; rw [if_pos (by omega)]; show _ = (((((6 * k + j) :: (AM A).1).take 40).length : Nat) : Int); rw [List.length_take]; rfl) (by unfold sp_teach; rw [if_pos (by omega)]; exact hzu1.setS (hzu2.2.mono (by decide) (by decide)) hzu2.1.take)
    · skip
      refine g_iconst hR dX8_teach_15 ?_
      exact g_iret hR dX8_teach_16 rfl (by unfold sp_teach; rw [if_neg (by omega)]; skip) (by unfold sp_teach; rw [if_neg (by omega)]; exact h)
theorem M_undo {E : f_E} {σ : f_Mem} {A : AS} (h : InvM σ A) (ok : ASOK A) : FZ E sM mX8_undo 12 [.ref (f_ad E 0)] σ (sp_undo A).1 (fun u => InvM u (sp_undo A).2) := by
  have hK1 := ok.K1
  have hK6 := ok.K6
  have hkk : AK A = (Lm (AL A)).length := rfl
  have hrl := ok.L.rl
  have hwl := ok.wl
  have hwo := ok.w
  have h6h := ok.M.2.2
  have hf6 := ok.L.f
  have hs4 := ok.L.s
  have hpl := ok.2.2.2.2.1.2
  refine FZ.intro rfl (Nat.le_of_ble_eq_true rfl) (L0 := [some (.ref (f_ad E 0)), none]) rfl (fun G hR => ?_)
  refine g_aload_0 hR dX8_undo_0 (g_getI hR _ dX8_undo_1 flX8_142 (by decide) rfl rfl h.pn (g_if_ne hR 10 dX8_undo_4 (by decide) (by omega) (fun zc4 => ?_) (fun zc4 => ?_)))
  · skip
    refine g_aload_0 hR dX8_undo_10 (g_dup hR dX8_undo_11 rfl (g_getI hR _ dX8_undo_12 flX8_142 (by decide) rfl rfl h.pn (g_iconst hR dX8_undo_15 (g_isub hR dX8_undo_16 (g_putU hR dX8_undo_17 fpX8_142 (by decide) rfl rfl (fun zu1 hzu1 => (g_iconst hR dX8_undo_20 (g_istore_1 hR dX8_undo_21 rfl ?_))))))))
    have hw0 := hzu1
    have hk0 := hzu1.1
    have loop : ∀ (mm : Nat) (j : Nat) (u : f_Mem), mm = 50 - j → j ≤ 50 → Cp zu1 u 3 0 8 (50 * ((Ap A).length - 1)) j → FrM [3] [] zu1 u → G 22 [some (.ref (f_ad E 0)), some (.int (iI j))] [] u := by
      intro mm
      induction mm using Nat.strongRecOn with
      | ind mm ih =>
        intro j u hm hj hc hF
        refine g_iload_1 hR dX8_undo_22 (g_bipush hR dX8_undo_23 (by decide) (g_icmp_ge hR 54 dX8_undo_25 (by decide) (by omega) (by omega) (fun zc25 => ?_) (fun zc25 => ?_)))
        · skip
          refine g_aload_0 hR dX8_undo_54 (g_getI hR _ dX8_undo_55 flX8_142 (by decide) rfl rfl ((hF.2 19 (by decide)).trans hk0) ?_)
          obtain rfl : j = 50 := by omega
          exact g_iret hR dX8_undo_58 rfl (by unfold sp_undo; rw [if_neg (by omega)]; skip) (by unfold sp_undo; rw [if_neg (by omega)]; exact (h.setP (l := (Ap A).dropLast) (FrM.fd hw0 (by decide)) ((h.pa.sub (fun _ _ q => dropLast_get q)).fr (hw0.2.2 8 (by omega))) (by rw [hk0, List.length_dropLast]; exact congrArg iI (by omega))).setS (hF.mono (by decide) (by decide)) (hc.st ((h.pa _ _ (getD_at (by omega))).fr (hw0.2.2 8 (by omega)))))
        · skip
          refine g_aload_0 hR dX8_undo_28 (g_getR hR dX8_undo_29 flX8_16 (by decide) rfl rfl (g_iload_1 hR dX8_undo_32 (g_aload_0 hR dX8_undo_33 (g_getR hR dX8_undo_34 flX8_31 (by decide) rfl rfl (g_bipush hR dX8_undo_37 (by decide) (g_aload_0 hR dX8_undo_39 (g_getI hR _ dX8_undo_40 flX8_142 (by decide) rfl rfl ((hF.2 19 (by decide)).trans hk0) (g_imul hR dX8_undo_43 (g_iload_1 hR dX8_undo_44 (g_iadd hR dX8_undo_45 (g_aldU hR _ dX8_undo_46 (by decide) rfl (by decide) (by omega) (iI_of (u 8 (50 * ((Ap A).length - 1) + j))) (by omega) (g_astU hR (0 + j) dX8_undo_47 (by decide) rfl (by decide) (by omega) (by omega) (fun zu1 hzu1 => (g_iinc_1 hR dX8_undo_48 rfl (g_goto hR 22 dX8_undo_51 (by decide) ?_)))))))))))))))
          exact ih (50 - (j + 1)) (by omega) (j + 1) zu1 rfl (by omega) (hc.step (congrFun (hF.1 8 (by decide) (by decide)) _) hzu1) (hF.tr (FrM.ar hzu1 (by decide) (by decide)))
    exact loop 50 0 zu1 (by omega) (by omega) Cp.rf FrM.rf
  · skip
    refine g_bipush hR dX8_undo_7 (by decide) ?_
    exact g_iret hR dX8_undo_9 rfl (by unfold sp_undo; rw [if_pos (by omega)]; skip) (by unfold sp_undo; rw [if_pos (by omega)]; exact h)
theorem M_tell {E : f_E} {σ : f_Mem} {A : AS} (h : InvM σ A) (ok : ASOK A) {a : Int} (ha : -2147483648 ≤ a ∧ a < 2147483648) : FZ E sM mX8_tell 12 [.ref (f_ad E 0), .int (iI a)] σ (sp_tell A a).1 (fun u => InvM u (sp_tell A a).2) := by
  have hK1 := ok.K1
  have hK6 := ok.K6
  have hkk : AK A = (Lm (AL A)).length := rfl
  have hrl := ok.L.rl
  have hwl := ok.wl
  have hwo := ok.w
  have h6h := ok.M.2.2
  have hf6 := ok.L.f
  have hs4 := ok.L.s
  refine FZ.intro rfl (Nat.le_of_ble_eq_true rfl) (L0 := [some (.ref (f_ad E 0)), some (.int (iI a))]) rfl (fun G hR => ?_)
  refine g_aload_0 hR dX8_tell_0 (g_iload_1 hR dX8_tell_1 (g_callV1P hR dX8_tell_2 mlX8_151 (by decide) rfl rfl (C8_isKind h.hd ok.L ha) (by decide) (Nat.le_of_ble_eq_true rfl) (g_if_ne hR 10 dX8_tell_5 (by decide) (by split <;> omega) (fun zc5 => ?_) (fun zc5 => ?_))))
  · skip
    obtain ⟨k, rfl⟩ : ∃ k : Nat, a = k := ⟨a.toNat, by omega⟩
    refine g_aload_0 hR dX8_tell_10 (g_getI hR _ dX8_tell_11 flX8_71 (by decide) rfl rfl h.rn (g_bipush hR dX8_tell_14 (by decide) (g_icmp_ne hR 22 dX8_tell_16 (by decide) (by omega) (by omega) (fun zc16 => ?_) (fun zc16 => ?_))))
    · skip
      refine g_aload_0 hR dX8_tell_22 (g_getR hR dX8_tell_23 flX8_13 (by decide) rfl rfl (g_aload_0 hR dX8_tell_26 (g_getI hR _ dX8_tell_27 flX8_71 (by decide) rfl rfl h.rn (g_iload_1 hR dX8_tell_30 (g_astU hR ((Lrow (AL A)).length) dX8_tell_31 (by decide) rfl (by decide) (by omega) (by omega) (fun zu1 hzu1 => (g_aload_0 hR dX8_tell_32 (g_dup hR dX8_tell_33 rfl (g_getI hR _ dX8_tell_34 flX8_71 (by decide) rfl rfl ((congrFun (hzu1.2.2 0 (by omega)) 5).trans h.rn) (g_iconst hR dX8_tell_37 (g_iadd hR dX8_tell_38 (g_putU hR dX8_tell_39 fpX8_71 (by decide) rfl rfl (fun zu2 hzu2 => (g_aload_0 hR dX8_tell_42 (g_getI hR _ dX8_tell_43 flX8_71 (by decide) rfl rfl hzu2.1 ?_)))))))))))))))
      exact g_iret hR dX8_tell_46 rfl (by unfold sp_tell; rw [if_pos (by omega), if_neg (by omega)]; skip) (by unfold sp_tell; rw [if_pos (by omega), if_neg (by omega)]; exact h.setR ((FrM.ar hzu1 (by decide) (by decide)).tr (FrM.fd hzu2 (by decide))) ((h.rw.add hzu1).fr (hzu2.2.2 2 (by omega))) (by rw [hzu2.1, List.length_append]; rfl))
    · skip
      refine g_bipush hR dX8_tell_19 (by decide) ?_
      exact g_iret hR dX8_tell_21 rfl (by unfold sp_tell; rw [if_pos (by omega), if_pos (by omega)]; skip) (by unfold sp_tell; rw [if_pos (by omega), if_pos (by omega)]; exact h)
  · skip
    refine g_iconst hR dX8_tell_8 ?_
    exact g_iret hR dX8_tell_9 rfl (by unfold sp_tell; rw [if_neg (by omega)]; skip) (by unfold sp_tell; rw [if_neg (by omega)]; exact h)
theorem M_noRow {E : f_E} {σ : f_Mem} {A : AS} (h : InvM σ A) (ok : ASOK A) : FZ E sM mX8_noRow 12 [.ref (f_ad E 0)] σ (sp_noRow A).1 (fun u => InvM u (sp_noRow A).2) := by
  refine FZ.intro rfl (Nat.le_of_ble_eq_true rfl) (L0 := [some (.ref (f_ad E 0)), none]) rfl (fun G hR => ?_)
  refine g_aload_0 hR dX8_noRow_0 (g_getI hR _ dX8_noRow_1 flX8_71 (by decide) rfl rfl h.rn (g_istore_1 hR dX8_noRow_4 rfl (g_aload_0 hR dX8_noRow_5 (g_iconst hR dX8_noRow_6 (g_putU hR dX8_noRow_7 fpX8_71 (by decide) rfl rfl (fun zu1 hzu1 => ?_))))))
  have h1 := h.setR (row := []) (FrM.fd hzu1 (by decide)) (fun i hi => absurd hi (by simp)) hzu1.1
  refine g_aload_0 hR dX8_noRow_10 (g_iconst hR dX8_noRow_11 (g_putU hR dX8_noRow_12 fpX8_145 (by decide) rfl rfl (fun zu2 hzu2 => (g_iload_1 hR dX8_noRow_15 ?_))))
  exact g_iret hR dX8_noRow_16 rfl rfl (h1.setZ (FrM.fd hzu2 (by decide)) (fun i hi => absurd hi (by simp)) hzu2.1)
theorem M_seen {E : f_E} {σ : f_Mem} {A : AS} (h : InvM σ A) (ok : ASOK A) {a d : Int} (ha : -2147483648 ≤ a ∧ a < 2147483648) (hd : -2147483648 ≤ d ∧ d < 2147483648) : FZ E sM mX8_seen 12 [.ref (f_ad E 0), .int (iI a), .int (iI d)] σ (sp_seen A a d).1 (fun u => InvM u (sp_seen A a d).2) := by
  have hK1 := ok.K1
  have hK6 := ok.K6
  have hkk : AK A = (Lm (AL A)).length := rfl
  have hrl := ok.L.rl
  have hwl := ok.wl
  have hwo := ok.w
  have h6h := ok.M.2.2
  have hf6 := ok.L.f
  have hs4 := ok.L.s
  have hzl := ok.2.2.2.2.2.2.2
  refine FZ.intro rfl (Nat.le_of_ble_eq_true rfl) (L0 := [some (.ref (f_ad E 0)), some (.int (iI a)), some (.int (iI d))]) rfl (fun G hR => ?_)
  refine g_iload_1 hR dX8_seen_0 (g_i2l hR dX8_seen_1 (by omega) (g_lconst hR 0 dX8_seen_2 (by decide) (g_aload_0 hR dX8_seen_3 (g_getI hR _ dX8_seen_4 flX8_71 (by decide) rfl rfl h.rn (g_iconst hR dX8_seen_7 (g_isub hR dX8_seen_8 (g_i2l hR dX8_seen_9 (by omega) (g_callS3P hR dX8_seen_10 mlX8_78 (C8_in (by omega) (by omega) (by omega)) (by decide) (Nat.le_of_ble_eq_true rfl) (g_if_eq hR 23 dX8_seen_13 (by decide) (by split <;> omega) (fun zc13 => ?_) (fun zc13 => ?_))))))))))
  · skip
    refine g_iconst hR dX8_seen_23 ?_
    exact g_iret hR dX8_seen_24 rfl (by unfold sp_seen; rw [if_neg (by omega)]; skip) (by unfold sp_seen; rw [if_neg (by omega)]; exact h)
  · skip
    refine g_iload_2 hR dX8_seen_16 (g_callS1P hR dX8_seen_17 mlX8_103 (C8_isDoing hd) (by decide) (Nat.le_of_ble_eq_true rfl) (g_if_ne hR 25 dX8_seen_20 (by decide) (by split <;> omega) (fun zc20 => ?_) (fun zc20 => ?_)))
    · skip
      obtain ⟨k, rfl⟩ : ∃ k : Nat, a = k := ⟨a.toNat, by omega⟩
      obtain ⟨j, rfl⟩ : ∃ j : Nat, d = j := ⟨d.toNat, by omega⟩
      refine g_aload_0 hR dX8_seen_25 (g_getI hR _ dX8_seen_26 flX8_145 (by decide) rfl rfl h.sl (g_bipush hR dX8_seen_29 (by decide) (g_icmp_ne hR 37 dX8_seen_31 (by decide) (by omega) (by omega) (fun zc31 => ?_) (fun zc31 => ?_))))
      · skip
        refine g_aload_0 hR dX8_seen_37 (g_getR hR dX8_seen_38 flX8_52 (by decide) rfl rfl (g_aload_0 hR dX8_seen_41 (g_getI hR _ dX8_seen_42 flX8_145 (by decide) rfl rfl h.sl (g_iload_1 hR dX8_seen_45 (g_astU hR ((Az A).length) dX8_seen_46 (by decide) rfl (by decide) (by omega) (by omega) (fun zu1 hzu1 => (g_aload_0 hR dX8_seen_47 (g_getR hR dX8_seen_48 flX8_55 (by decide) rfl rfl (g_aload_0 hR dX8_seen_51 (g_getI hR _ dX8_seen_52 flX8_145 (by decide) rfl rfl ((congrFun (hzu1.2.2 0 (by omega)) 28).trans h.sl) (g_iload_2 hR dX8_seen_55 (g_astU hR ((Az A).length) dX8_seen_56 (by decide) rfl (by decide) (by omega) (by omega) (fun zu2 hzu2 => (g_aload_0 hR dX8_seen_57 (g_dup hR dX8_seen_58 rfl (g_getI hR _ dX8_seen_59 flX8_145 (by decide) rfl rfl ((congrFun (hzu2.2.2 0 (by omega)) 28).trans ((congrFun (hzu1.2.2 0 (by omega)) 28).trans h.sl)) (g_iconst hR dX8_seen_62 (g_iadd hR dX8_seen_63 (g_putU hR dX8_seen_64 fpX8_145 (by decide) rfl rfl (fun zu3 hzu3 => (g_aload_0 hR dX8_seen_67 (g_getI hR _ dX8_seen_68 flX8_145 (by decide) rfl rfl hzu3.1 ?_))))))))))))))))))))))
        exact g_iret hR dX8_seen_71 rfl (by unfold sp_seen; rw [if_pos (by omega), if_neg (by omega)]; skip) (by unfold sp_seen; rw [if_pos (by omega), if_neg (by omega)]; exact h.setZ ((FrM.ar hzu1 (by decide) (by decide)).tr ((FrM.ar hzu2 (by decide) (by decide)).tr (FrM.fd hzu3 (by decide)))) ((h.sn.add (by omega) hzu1 hzu2).fr (hzu3.2.2 15 (by omega)) (hzu3.2.2 16 (by omega))) (by rw [hzu3.1, List.length_append]; rfl))
      · skip
        refine g_bipush hR dX8_seen_34 (by decide) ?_
        exact g_iret hR dX8_seen_36 rfl (by unfold sp_seen; rw [if_pos (by omega), if_pos (by omega)]; skip) (by unfold sp_seen; rw [if_pos (by omega), if_pos (by omega)]; exact h)
    · skip
      refine g_iconst hR dX8_seen_23 ?_
      exact g_iret hR dX8_seen_24 rfl (by unfold sp_seen; rw [if_neg (by omega)]; skip) (by unfold sp_seen; rw [if_neg (by omega)]; exact h)
theorem M_forget {E : f_E} {σ : f_Mem} {A : AS} (h : InvM σ A) (ok : ASOK A) : FZ E sM mX8_forget 12 [.ref (f_ad E 0)] σ (sp_forget A).1 (fun u => InvM u (sp_forget A).2) := by
  refine FZ.intro rfl (Nat.le_of_ble_eq_true rfl) (L0 := [some (.ref (f_ad E 0)), none]) rfl (fun G hR => ?_)
  refine g_aload_0 hR dX8_forget_0 (g_getI hR _ dX8_forget_1 flX8_145 (by decide) rfl rfl h.sl (g_istore_1 hR dX8_forget_4 rfl (g_aload_0 hR dX8_forget_5 (g_iconst hR dX8_forget_6 (g_putU hR dX8_forget_7 fpX8_145 (by decide) rfl rfl (fun zu1 hzu1 => (g_iload_1 hR dX8_forget_10 ?_)))))))
  exact g_iret hR dX8_forget_11 rfl rfl (h.setZ (FrM.fd hzu1 (by decide)) (fun i hi => absurd hi (by simp)) hzu1.1)
theorem M_keep {E : f_E} {σ : f_Mem} {A : AS} (h : InvM σ A) (ok : ASOK A) : FZ E sM mX8_keep 12 [.ref (f_ad E 0)] σ (sp_keep A).1 (fun u => InvM u (sp_keep A).2) := by
  have hK1 := ok.K1
  have hK6 := ok.K6
  have hkk : AK A = (Lm (AL A)).length := rfl
  have hrl := ok.L.rl
  have hwl := ok.wl
  have hwo := ok.w
  have h6h := ok.M.2.2
  have hf6 := ok.L.f
  have hs4 := ok.L.s
  have hkl := ok.2.2.2.2.2.1.2
  refine FZ.intro rfl (Nat.le_of_ble_eq_true rfl) (L0 := [some (.ref (f_ad E 0)), none]) rfl (fun G hR => ?_)
  refine g_aload_0 hR dX8_keep_0 (g_getI hR _ dX8_keep_1 flX8_148 (by decide) rfl rfl h.kn (g_iconst hR dX8_keep_4 (g_icmp_ne hR 11 dX8_keep_5 (by decide) (by omega) (by omega) (fun zc5 => ?_) (fun zc5 => ?_))))
  · skip
    refine g_iconst hR dX8_keep_11 (g_istore_1 hR dX8_keep_12 rfl ?_)
    have loop : ∀ (mm : Nat) (j : Nat) (u : f_Mem), mm = 50 - j → j ≤ 50 → Cp σ u 19 (50 * (Ak A).length) 3 0 j → FrM [19] [] σ u → (∀ i, i < 50 * (Ak A).length → u 19 i = σ 19 i) → G 13 [some (.ref (f_ad E 0)), some (.int (iI j))] [] u := by
      intro mm
      induction mm using Nat.strongRecOn with
      | ind mm ih =>
        intro j u hm hj hc hF ho
        refine g_iload_1 hR dX8_keep_13 (g_bipush hR dX8_keep_14 (by decide) (g_icmp_ge hR 45 dX8_keep_16 (by decide) (by omega) (by omega) (fun zc16 => ?_) (fun zc16 => ?_)))
        · skip
          refine g_aload_0 hR dX8_keep_45 (g_dup hR dX8_keep_46 rfl (g_getI hR _ dX8_keep_47 flX8_148 (by decide) rfl rfl ((hF.2 32 (by decide)).trans h.kn) (g_iconst hR dX8_keep_50 (g_iadd hR dX8_keep_51 (g_putU hR dX8_keep_52 fpX8_148 (by decide) rfl rfl (fun zu1 hzu1 => (g_aload_0 hR dX8_keep_55 (g_getI hR _ dX8_keep_56 flX8_148 (by decide) rfl rfl hzu1.1 ?_))))))))
          obtain rfl : j = 50 := by omega
          exact g_iret hR dX8_keep_59 rfl (by unfold sp_keep; rw [if_neg (by omega)]; skip) (by unfold sp_keep; rw [if_neg (by omega)]; exact h.setK ((hF.mono (by decide) (by decide)).tr (FrM.fd hzu1 (by decide))) ((h.ke.add h.st hc ho).fr (hzu1.2.2 19 (by omega))) (by rw [hzu1.1, List.length_append]; rfl))
        · skip
          refine g_aload_0 hR dX8_keep_19 (g_getR hR dX8_keep_20 flX8_64 (by decide) rfl rfl (g_bipush hR dX8_keep_23 (by decide) (g_aload_0 hR dX8_keep_25 (g_getI hR _ dX8_keep_26 flX8_148 (by decide) rfl rfl ((hF.2 32 (by decide)).trans h.kn) (g_imul hR dX8_keep_29 (g_iload_1 hR dX8_keep_30 (g_iadd hR dX8_keep_31 (g_aload_0 hR dX8_keep_32 (g_getR hR dX8_keep_33 flX8_16 (by decide) rfl rfl (g_iload_1 hR dX8_keep_36 (g_aldU hR _ dX8_keep_37 (by decide) rfl (by decide) (by omega) (iI_of (u 3 (0 + j))) (by omega) (g_astU hR (50 * (Ak A).length + j) dX8_keep_38 (by decide) rfl (by decide) (by omega) (by omega) (fun zu1 hzu1 => (g_iinc_1 hR dX8_keep_39 rfl (g_goto hR 13 dX8_keep_42 (by decide) ?_)))))))))))))))
          exact ih (50 - (j + 1)) (by omega) (j + 1) zu1 rfl (by omega) (hc.step (congrFun (hF.1 3 (by decide) (by decide)) _) hzu1) (hF.tr (FrM.ar hzu1 (by decide) (by decide))) (fun i hi => (hzu1.2.1 i (by omega)).trans (ho i hi))
    exact loop 50 0 σ (by omega) (by omega) Cp.rf FrM.rf (fun _ _ => rfl)
  · skip
    refine g_bipush hR dX8_keep_8 (by decide) ?_
    exact g_iret hR dX8_keep_10 rfl (by unfold sp_keep; rw [if_pos (by omega)]; skip) (by unfold sp_keep; rw [if_pos (by omega)]; exact h)
theorem M_back {E : f_E} {σ : f_Mem} {A : AS} (h : InvM σ A) (ok : ASOK A) : FZ E sM mX8_back 12 [.ref (f_ad E 0)] σ (sp_back A).1 (fun u => InvM u (sp_back A).2) := by
  have hK1 := ok.K1
  have hK6 := ok.K6
  have hkk : AK A = (Lm (AL A)).length := rfl
  have hrl := ok.L.rl
  have hwl := ok.wl
  have hwo := ok.w
  have h6h := ok.M.2.2
  have hf6 := ok.L.f
  have hs4 := ok.L.s
  have hkl := ok.2.2.2.2.2.1.2
  refine FZ.intro rfl (Nat.le_of_ble_eq_true rfl) (L0 := [some (.ref (f_ad E 0)), none]) rfl (fun G hR => ?_)
  refine g_aload_0 hR dX8_back_0 (g_getI hR _ dX8_back_1 flX8_148 (by decide) rfl rfl h.kn (g_if_ne hR 10 dX8_back_4 (by decide) (by omega) (fun zc4 => ?_) (fun zc4 => ?_)))
  · skip
    refine g_aload_0 hR dX8_back_10 (g_dup hR dX8_back_11 rfl (g_getI hR _ dX8_back_12 flX8_148 (by decide) rfl rfl h.kn (g_iconst hR dX8_back_15 (g_isub hR dX8_back_16 (g_putU hR dX8_back_17 fpX8_148 (by decide) rfl rfl (fun zu1 hzu1 => (g_iconst hR dX8_back_20 (g_istore_1 hR dX8_back_21 rfl ?_))))))))
    have hw0 := hzu1
    have hk0 := hzu1.1
    have loop : ∀ (mm : Nat) (j : Nat) (u : f_Mem), mm = 50 - j → j ≤ 50 → Cp zu1 u 3 0 19 (50 * ((Ak A).length - 1)) j → FrM [3] [] zu1 u → G 22 [some (.ref (f_ad E 0)), some (.int (iI j))] [] u := by
      intro mm
      induction mm using Nat.strongRecOn with
      | ind mm ih =>
        intro j u hm hj hc hF
        refine g_iload_1 hR dX8_back_22 (g_bipush hR dX8_back_23 (by decide) (g_icmp_ge hR 54 dX8_back_25 (by decide) (by omega) (by omega) (fun zc25 => ?_) (fun zc25 => ?_)))
        · skip
          refine g_aload_0 hR dX8_back_54 (g_iconst hR dX8_back_55 (g_putU hR dX8_back_56 fpX8_142 (by decide) rfl rfl (fun zu1 hzu1 => (g_aload_0 hR dX8_back_59 (g_getI hR _ dX8_back_60 flX8_148 (by decide) rfl rfl ((hzu1.2.1 32 (by omega)).trans ((hF.2 32 (by decide)).trans hk0)) ?_)))))
          obtain rfl : j = 50 := by omega
          exact g_iret hR dX8_back_63 rfl (by unfold sp_back; rw [if_neg (by omega)]; skip) (by unfold sp_back; rw [if_neg (by omega)]; exact ((h.setK (l := (Ak A).dropLast) (FrM.fd hw0 (by decide)) ((h.ke.sub (fun _ _ q => dropLast_get q)).fr (hw0.2.2 19 (by omega))) (by rw [hk0, List.length_dropLast]; exact congrArg iI (by omega))).setS (hF.mono (by decide) (by decide)) (hc.st ((h.ke _ _ (getD_at (by omega))).fr (hw0.2.2 19 (by omega))))).setP (l := []) (FrM.fd hzu1 (by decide)) (fun i M q => by simp at q) hzu1.1)
        · skip
          refine g_aload_0 hR dX8_back_28 (g_getR hR dX8_back_29 flX8_16 (by decide) rfl rfl (g_iload_1 hR dX8_back_32 (g_aload_0 hR dX8_back_33 (g_getR hR dX8_back_34 flX8_64 (by decide) rfl rfl (g_bipush hR dX8_back_37 (by decide) (g_aload_0 hR dX8_back_39 (g_getI hR _ dX8_back_40 flX8_148 (by decide) rfl rfl ((hF.2 32 (by decide)).trans hk0) (g_imul hR dX8_back_43 (g_iload_1 hR dX8_back_44 (g_iadd hR dX8_back_45 (g_aldU hR _ dX8_back_46 (by decide) rfl (by decide) (by omega) (iI_of (u 19 (50 * ((Ak A).length - 1) + j))) (by omega) (g_astU hR (0 + j) dX8_back_47 (by decide) rfl (by decide) (by omega) (by omega) (fun zu1 hzu1 => (g_iinc_1 hR dX8_back_48 rfl (g_goto hR 22 dX8_back_51 (by decide) ?_)))))))))))))))
          exact ih (50 - (j + 1)) (by omega) (j + 1) zu1 rfl (by omega) (hc.step (congrFun (hF.1 19 (by decide) (by decide)) _) hzu1) (hF.tr (FrM.ar hzu1 (by decide) (by decide)))
    exact loop 50 0 zu1 (by omega) (by omega) Cp.rf FrM.rf
  · skip
    refine g_bipush hR dX8_back_7 (by decide) ?_
    exact g_iret hR dX8_back_9 rfl (by unfold sp_back; rw [if_pos (by omega)]; skip) (by unfold sp_back; rw [if_pos (by omega)]; exact h)
theorem M_count {E : f_E} {σ : f_Mem} {A : AS} (h : InvM σ A) (ok : ASOK A) {w : Int} (hw : -2147483648 ≤ w ∧ w < 2147483648) : FZ E sM mX8_count 12 [.ref (f_ad E 0), .int (iI w)] σ (sp_count A w) (fun u => InvM u A) := by
  have hK1 := ok.K1
  have hK6 := ok.K6
  have hkk : AK A = (Lm (AL A)).length := rfl
  have hrl := ok.L.rl
  have hwl := ok.wl
  have hwo := ok.w
  have h6h := ok.M.2.2
  have hf6 := ok.L.f
  have hs4 := ok.L.s
  have hmany : σ 3 (0 + 40) = iI ((AM A).1.length : Nat) := by rw [h.st.many, show min 40 (AM A).1.length = (AM A).1.length from by omega]
  refine FZ.intro rfl (Nat.le_of_ble_eq_true rfl) (L0 := [some (.ref (f_ad E 0)), some (.int (iI w))]) rfl (fun G hR => ?_)
  rcases (show w = 0 ∨ w = 1 ∨ w = 2 ∨ w = 3 ∨ w = 4 ∨ w = 5 ∨ w = 6 ∨ w = 7 ∨ w = 8 ∨ w = 9 ∨ w = 10 ∨ w = 11 ∨ (w < 0 ∨ 11 < w) from by omega) with rfl | rfl | rfl | rfl | rfl | rfl | rfl | rfl | rfl | rfl | rfl | rfl | hout
  · skip
    refine g_iload_1 hR dX8_count_0 (g_tblIn hR 64 dX8_count_1 (by omega) (by omega) (by omega) rfl (by decide) (g_aload_0 hR dX8_count_64 (g_getI hR _ dX8_count_65 flX8_75 (by decide) rfl rfl h.hd.1 ?_)))
    exact g_iret hR dX8_count_68 rfl rfl h
  · skip
    refine g_iload_1 hR dX8_count_0 (g_tblIn hR 69 dX8_count_1 (by omega) (by omega) (by omega) rfl (by decide) (g_aload_0 hR dX8_count_69 (g_getI hR _ dX8_count_70 flX8_136 (by decide) rfl rfl h.hd.2.1 ?_)))
    exact g_iret hR dX8_count_73 rfl rfl h
  · skip
    refine g_iload_1 hR dX8_count_0 (g_tblIn hR 74 dX8_count_1 (by omega) (by omega) (by omega) rfl (by decide) (g_aload_0 hR dX8_count_74 (g_getI hR _ dX8_count_75 flX8_139 (by decide) rfl rfl h.hd.2.2 ?_)))
    exact g_iret hR dX8_count_78 rfl rfl h
  · skip
    refine g_iload_1 hR dX8_count_0 (g_tblIn hR 79 dX8_count_1 (by omega) (by omega) (by omega) rfl (by decide) (g_aload_0 hR dX8_count_79 (g_getI hR _ dX8_count_80 flX8_71 (by decide) rfl rfl h.rn ?_)))
    exact g_iret hR dX8_count_83 rfl rfl h
  · skip
    refine g_iload_1 hR dX8_count_0 (g_tblIn hR 84 dX8_count_1 (by omega) (by omega) (by omega) rfl (by decide) (g_aload_0 hR dX8_count_84 (g_getR hR dX8_count_85 flX8_16 (by decide) rfl rfl (g_bipush hR dX8_count_88 (by decide) (g_aldU hR _ dX8_count_90 (by decide) rfl (by decide) (by omega) hmany (by omega) ?_)))))
    exact g_iret hR dX8_count_91 rfl rfl h
  · skip
    refine g_iload_1 hR dX8_count_0 (g_tblIn hR 92 dX8_count_1 (by omega) (by omega) (by omega) rfl (by decide) (g_aload_0 hR dX8_count_92 (g_getR hR dX8_count_93 flX8_16 (by decide) rfl rfl (g_bipush hR dX8_count_96 (by decide) (g_aldU hR _ dX8_count_98 (by decide) rfl (by decide) (by omega) h.st.days (by omega) ?_)))))
    exact g_iret hR dX8_count_99 rfl rfl h
  · skip
    refine g_iload_1 hR dX8_count_0 (g_tblIn hR 100 dX8_count_1 (by omega) (by omega) (by omega) rfl (by decide) (g_aload_0 hR dX8_count_100 (g_getR hR dX8_count_101 flX8_16 (by decide) rfl rfl (g_bipush hR dX8_count_104 (by decide) (g_aldU hR _ dX8_count_106 (by decide) rfl (by decide) (by omega) h.st.lost (by omega) ?_)))))
    exact g_iret hR dX8_count_107 rfl rfl h
  · skip
    refine g_iload_1 hR dX8_count_0 (g_tblIn hR 108 dX8_count_1 (by omega) (by omega) (by omega) rfl (by decide) (g_aload_0 hR dX8_count_108 (g_getR hR dX8_count_109 flX8_16 (by decide) rfl rfl (g_bipush hR dX8_count_112 (by decide) (g_aldU hR _ dX8_count_114 (by decide) rfl (by decide) (by omega) h.st.goods (by omega) ?_)))))
    exact g_iret hR dX8_count_115 rfl rfl h
  · skip
    refine g_iload_1 hR dX8_count_0 (g_tblIn hR 116 dX8_count_1 (by omega) (by omega) (by omega) rfl (by decide) (g_aload_0 hR dX8_count_116 (g_getI hR _ dX8_count_117 flX8_145 (by decide) rfl rfl h.sl ?_)))
    exact g_iret hR dX8_count_120 rfl rfl h
  · skip
    refine g_iload_1 hR dX8_count_0 (g_tblIn hR 121 dX8_count_1 (by omega) (by omega) (by omega) rfl (by decide) (g_aload_0 hR dX8_count_121 (g_getI hR _ dX8_count_122 flX8_142 (by decide) rfl rfl h.pn ?_)))
    exact g_iret hR dX8_count_125 rfl rfl h
  · skip
    refine g_iload_1 hR dX8_count_0 (g_tblIn hR 126 dX8_count_1 (by omega) (by omega) (by omega) rfl (by decide) (g_aload_0 hR dX8_count_126 (g_getI hR _ dX8_count_127 flX8_148 (by decide) rfl rfl h.kn ?_)))
    exact g_iret hR dX8_count_130 rfl rfl h
  · skip
    refine g_iload_1 hR dX8_count_0 (g_tblIn hR 131 dX8_count_1 (by omega) (by omega) (by omega) rfl (by decide) (g_aload_0 hR dX8_count_131 (g_getI hR _ dX8_count_132 flX8_88 (by decide) rfl rfl h.tn ?_)))
    exact g_iret hR dX8_count_135 rfl rfl h
  · skip
    refine g_iload_1 hR dX8_count_0 (g_tblOut hR 136 dX8_count_1 (by omega) (by omega) (by decide) (g_iconst hR dX8_count_136 ?_))
    exact g_iret hR dX8_count_137 rfl (by unfold sp_count; rw [if_neg (by omega), if_neg (by omega), if_neg (by omega), if_neg (by omega), if_neg (by omega), if_neg (by omega), if_neg (by omega), if_neg (by omega), if_neg (by omega), if_neg (by omega), if_neg (by omega), if_neg (by omega)]) h

theorem firstG_seek (L : Les) (s f : Nat) : ∀ (row r : List Nat) (p : Nat) (c : Nat → Bool), (∀ i, i < row.length → c (p + i) = decide (oc L (row.getD i 0) ((runD L s f row r).getD i 0) = 0)) → firstG L s f p row r = seekP c row.length p
  | [], r, p, c, _ => rfl
  | k :: t, r, p, c, h => by
    have h0 := h 0 (by simp)
    have h1 := firstG_seek L s f t (dayR L s f k r) (p + 1) c (fun i hi => by
      have := h (i + 1) (by simp; omega)
      rw [show p + 1 + i = p + (i + 1) from by omega, this]
      rfl)
    have h0 : c p = decide (oc L k (does L s f k r) = 0) := h0
    show (if oc L k (does L s f k r) = 0 then (p : Int) else firstG L s f (p + 1) t (dayR L s f k r)) = seekP c (t.length + 1) p
    unfold seekP
    rw [h0, h1]
    by_cases q : oc L k (does L s f k r) = 0
    · rw [if_pos q, if_pos (decide_eq_true q)]
    · rw [if_neg q, if_neg (by rw [decide_eq_false q]; decide)]
theorem stL_00 : ∀ i, i < 50 → stL M00 i = none ∨ stL M00 i = some 0 := by decide
theorem StM.zero {u : f_Mem} {a : Nat} (h : ∀ i, i < 50 → u a i = iI 0) : StM u a 0 M00 := fun i v q => by
  have hi := stL_lt q
  rw [Nat.zero_add, h i hi]
  rcases stL_00 i hi with e | e
  · rw [e] at q; cases q
  · rw [e] at q; cases q; rfl

theorem M_run {E : f_E} {σ : f_Mem} {A : AS} (h : InvM σ A) (ok : ASOK A) {s k w : Int} (hs : -2147483648 ≤ s ∧ s < 2147483648) (hk : -2147483648 ≤ k ∧ k < 2147483648) (hw : -2147483648 ≤ w ∧ w < 2147483648) : FZ E sM mX8_run 12 [.ref (f_ad E 0), .int (iI s), .int (iI k), .int (iI w)] σ (sp_run A s k w) (fun u => InvM u A) := by
  have hK1 := ok.K1
  have hK6 := ok.K6
  have hkk : AK A = (Lm (AL A)).length := rfl
  have hrl := ok.L.rl
  have hwl := ok.wl
  have hwo := ok.w
  have h6h := ok.M.2.2
  have hf6 := ok.L.f
  have hs4 := ok.L.s
  refine FZ.intro rfl (Nat.le_of_ble_eq_true rfl) (L0 := [some (.ref (f_ad E 0)), some (.int (iI s)), some (.int (iI k)), some (.int (iI w)), none, none, none]) rfl (fun G hR => ?_)
  refine g_iload_1 hR dX8_run_0 (g_i2l hR dX8_run_1 (by omega) (g_lconst hR 0 dX8_run_2 (by decide) (g_ldc2 hR (3) dX8_run_3 kcX8_180 (by decide) (g_callS3P hR dX8_run_6 mlX8_78 (C8_in (by omega) (by omega) (by omega)) (by decide) (Nat.le_of_ble_eq_true rfl) (g_if_eq hR 40 dX8_run_9 (by decide) (by split <;> omega) (fun zc9 => ?_) (fun zc9 => ?_))))))
  · skip
    refine g_iconst hR dX8_run_40 ?_
    exact g_iret hR dX8_run_41 rfl (by unfold sp_run; rw [if_neg (by omega)]; skip) h
  · skip
    refine g_iload_2 hR dX8_run_12 (g_i2l hR dX8_run_13 (by omega) (g_ldc2 hR (-1) dX8_run_14 kcX8_197 (by decide) (g_aload_0 hR dX8_run_17 (g_getI hR _ dX8_run_18 flX8_71 (by decide) rfl rfl h.rn (g_iconst hR dX8_run_21 (g_isub hR dX8_run_22 (g_i2l hR dX8_run_23 (by omega) (g_callS3P hR dX8_run_24 mlX8_78 (C8_in (by omega) (by omega) (by omega)) (by decide) (Nat.le_of_ble_eq_true rfl) (g_if_eq hR 40 dX8_run_27 (by decide) (by split <;> omega) (fun zc27 => ?_) (fun zc27 => ?_))))))))))
    · skip
      refine g_iconst hR dX8_run_40 ?_
      exact g_iret hR dX8_run_41 rfl (by unfold sp_run; rw [if_neg (by omega)]; skip) h
    · skip
      refine g_iload_3 hR dX8_run_30 (g_i2l hR dX8_run_31 (by omega) (g_lconst hR 0 dX8_run_32 (by decide) (g_lconst hR 1 dX8_run_33 (by decide) (g_callS3P hR dX8_run_34 mlX8_78 (C8_in (by omega) (by omega) (by omega)) (by decide) (Nat.le_of_ble_eq_true rfl) (g_if_ne hR 42 dX8_run_37 (by decide) (by split <;> omega) (fun zc37 => ?_) (fun zc37 => ?_))))))
      · skip
        obtain ⟨sq, rfl⟩ : ∃ sq : Nat, s = sq := ⟨s.toNat, by omega⟩
        refine g_aload_0 hR dX8_run_42 (g_iload_1 hR dX8_run_43 (g_callV1Z hR dX8_run_44 mlX8_199 (by decide) rfl rfl (C8_tryRow h.st h.ls h.hd ok.L hwo h6h h.rw h.rn ok.L.2.2.1.2 hrl (s := sq) (by omega)) (by decide) (Nat.le_of_ble_eq_true rfl) (fun zu1 hzu1 => ?_)))
        have hI := h.keep (hzu1.2.2.mono (by decide) (by decide)) hzu1.1
        have hD := hzu1.2.1
        refine g_istore_4 hR dX8_run_47 rfl (g_iload_2 hR dX8_run_49 (g_if_lt hR 73 dX8_run_50 (by decide) (by omega) (fun zc50 => ?_) (fun zc50 => ?_)))
        · skip
          obtain rfl : k = -1 := by omega
          refine g_bipush hR dX8_run_73 (by decide) (g_istore_5 hR dX8_run_75 rfl (g_aload_0 hR dX8_run_77 (g_getI hR _ dX8_run_78 flX8_71 (by decide) rfl rfl hI.rn (g_iconst hR dX8_run_81 (g_isub hR dX8_run_82 (g_istore_6 hR dX8_run_83 rfl ?_))))))
          have loop : ∀ (mm : Nat) (p : Nat), mm = p → p ≤ (Lrow (AL A)).length → G 85 [some (.ref (f_ad E 0)), some (.int (iI sq)), some (.int (iI (-1))), some (.int (iI w)), some (.int (iI (runL (AL A) sq (Lfirst (AL A)) (Lrow (AL A)) (AM A).1 : Nat))), some (.int (iI (seekP (fun i => decide (oc (AL A) ((Lrow (AL A)).getD i 0) ((runD (AL A) sq (Lfirst (AL A)) (Lrow (AL A)) (AM A).1).getD i 0) = 0)) ((Lrow (AL A)).length - p) p))), some (.int (iI ((p : Int) - 1)))] [] zu1 := by
            intro mm
            induction mm using Nat.strongRecOn with
            | ind mm ih =>
              intro p hm hp
              refine g_iload_6 hR dX8_run_85 (g_if_lt hR 115 dX8_run_87 (by decide) (by omega) (fun zc87 => ?_) (fun zc87 => ?_))
              · skip
                refine g_iload_3 hR dX8_run_115 (g_if_ne hR 124 dX8_run_116 (by decide) (by omega) (fun zc116 => ?_) (fun zc116 => ?_))
                · skip
                  refine g_iload_5 hR dX8_run_124 ?_
                  obtain rfl : p = 0 := by omega
                  exact g_iret hR dX8_run_126 rfl (by unfold sp_run; rw [if_pos (by omega), if_pos rfl, if_neg (by omega)]; exact (firstG_seek _ _ _ _ _ 0 _ (fun i _ => by rw [Nat.zero_add]; rfl)).symm) hI
                · skip
                  refine g_iload_4 hR dX8_run_119 (g_goto hR 126 dX8_run_121 (by decide) ?_)
                  exact g_iret hR dX8_run_126 rfl (by unfold sp_run; rw [if_pos (by omega), if_pos (by omega), if_pos (by omega)]; rfl) hI
              · skip
                refine g_aload_0 hR dX8_run_90 (g_getR hR dX8_run_91 flX8_40 (by decide) rfl rfl (g_iload_6 hR dX8_run_94 (g_aldU hR _ dX8_run_96 (by decide) rfl (by decide) (by omega) (hD (p - 1) (by omega)).2 (by omega) (g_if_ne hR 105 dX8_run_97 (by decide) (by have := oc_le (AL A) ((Lrow (AL A)).getD (p - 1) 0) ((runD (AL A) sq (Lfirst (AL A)) (Lrow (AL A)) (AM A).1).getD (p - 1) 0); omega) (fun zc97 => ?_) (fun zc97 => ?_)))))
                · skip
                  refine g_iload_5 hR dX8_run_105 (g_istore_5 hR dX8_run_107 rfl (g_iinc_6 hR dX8_run_109 rfl (g_goto hR 85 dX8_run_112 (by decide) ?_)))
                  have h9 := ih (p - 1) (by omega) (p - 1) rfl (by omega)
                  rw [seekP_no (by omega) (decide_eq_false (by omega)), show (Lrow (AL A)).length - (p - 1) - 1 = (Lrow (AL A)).length - p from by omega, show p - 1 + 1 = p from by omega, show (((p - 1 : Nat) : Int) - 1) = (p : Int) - 1 + -1 from by omega] at h9
                  exact h9
                · skip
                  refine g_iload_6 hR dX8_run_100 (g_goto hR 107 dX8_run_102 (by decide) (g_istore_5 hR dX8_run_107 rfl (g_iinc_6 hR dX8_run_109 rfl (g_goto hR 85 dX8_run_112 (by decide) ?_))))
                  have h9 := ih (p - 1) (by omega) (p - 1) rfl (by omega)
                  rw [seekP_yes (by omega) (decide_eq_true (by omega)), show (((p - 1 : Nat) : Int) - 1) = (p : Int) - 1 + -1 from by omega, show ((p - 1 : Nat) : Int) = (p : Int) - 1 from by omega] at h9
                  exact h9
          have h0 := loop (Lrow (AL A)).length (Lrow (AL A)).length rfl (Nat.le_refl _)
          rw [Nat.sub_self] at h0
          exact h0
        · skip
          obtain ⟨kq, rfl⟩ : ∃ kq : Nat, k = kq := ⟨k.toNat, by omega⟩
          refine g_iload_3 hR dX8_run_53 (g_if_ne hR 66 dX8_run_54 (by decide) (by omega) (fun zc54 => ?_) (fun zc54 => ?_))
          · skip
            refine g_aload_0 hR dX8_run_66 (g_getR hR dX8_run_67 flX8_40 (by decide) rfl rfl (g_iload_2 hR dX8_run_70 (g_aldU hR _ dX8_run_71 (by decide) rfl (by decide) (by omega) (hD kq (by omega)).2 (by omega) ?_)))
            exact g_iret hR dX8_run_72 rfl (by unfold sp_run; rw [if_pos (by omega), if_neg (by omega), if_neg (by omega)]; rfl) hI
          · skip
            refine g_aload_0 hR dX8_run_57 (g_getR hR dX8_run_58 flX8_37 (by decide) rfl rfl (g_iload_2 hR dX8_run_61 (g_aldU hR _ dX8_run_62 (by decide) rfl (by decide) (by omega) (hD kq (by omega)).1 (by omega) (g_goto hR 72 dX8_run_63 (by decide) ?_))))
            exact g_iret hR dX8_run_72 rfl (by unfold sp_run; rw [if_pos (by omega), if_neg (by omega), if_pos (by omega)]; rfl) hI
      · skip
        refine g_iconst hR dX8_run_40 ?_
        exact g_iret hR dX8_run_41 rfl (by unfold sp_run; rw [if_neg (by omega)]; skip) h
