
/-- the text and what is read of it so far -/
def RdL (σ : f_Mem) (t : List Nat) (L : Les) : Prop := (TxM σ t ∧ σ 0 8 = iI (t.length : Nat)) ∧ (LsM σ 6 L ∧ σ 0 12 = iI ((Lm L).length : Nat)) ∧ (σ 0 13 = iI (Lsort L : Nat) ∧ σ 0 14 = iI (Lfirst L : Nat)) ∧ (RwM σ 7 (Lrow L) ∧ σ 0 16 = iI ((Lrow L).length : Nat))
theorem RdL.fr {σ u : f_Mem} {t : List Nat} {L : Les} (h : RdL σ t L) (hf : FrM [5] [9] σ u) : RdL u t L :=
  ⟨⟨h.1.1.fr (hf.1 4 (by decide) (by decide)), (hf.2 8 (by decide)).trans h.1.2⟩, ⟨h.2.1.1.fr (hf.1 6 (by decide) (by decide)), (hf.2 12 (by decide)).trans h.2.1.2⟩, ⟨(hf.2 13 (by decide)).trans h.2.2.1.1, (hf.2 14 (by decide)).trans h.2.2.1.2⟩, ⟨h.2.2.2.1.fr (hf.1 7 (by decide) (by decide)), (hf.2 16 (by decide)).trans h.2.2.2.2⟩⟩
def NmM (σ : f_Mem) (l : List Nat) : Prop := ∀ i, i < l.length → σ 5 i = iI (l.getD i 0 : Nat)
theorem NmM.fr {σ u : f_Mem} {l : List Nat} (h : NmM σ l) (e : u 5 = σ 5) : NmM u l := fun i hi => by rw [e]; exact h i hi
theorem NmM.add {σ u : f_Mem} {l : List Nat} {x : Nat} (h : NmM σ l) (hw : Wr σ u 5 l.length (iI (x : Nat))) : NmM u (l ++ [x]) := fun i hi => by
  rw [getD_snoc hi]
  by_cases q : i < l.length
  · rw [if_pos q, hw.2.1 i (by omega)]; exact h i q
  · rw [if_neg q, show i = l.length from by simp at hi; omega, hw.1]
theorem rdNs_none {t acc : List Nat} {m p : Nat} (h : rdN t p = none) : rdNs t (m + 1) p acc = none := by simp [rdNs, h]
theorem rdNs_bad {t acc : List Nat} {m p v q : Nat} (h : rdN t p = some (v, q)) (hb : t.getD q 0 ≠ if m = 0 then 59 else 44) : rdNs t (m + 1) p acc = none := by
  simp only [rdNs, h]; rw [if_neg hb]
theorem rdNs_go {t acc : List Nat} {m p v q : Nat} (h : rdN t p = some (v, q)) (hb : t.getD q 0 = if m = 0 then 59 else 44) : rdNs t (m + 1) p acc = rdNs t m (q + 1) (acc ++ [v]) := by
  simp only [rdNs, h]; rw [if_pos hb]
theorem rdNs_len (t : List Nat) : ∀ (n p : Nat) (acc : List Nat) (q : List Nat × Nat), rdNs t n p acc = some q → q.1.length = acc.length + n
  | 0, p, acc, q, h => by cases h; rfl
  | n + 1, p, acc, q, h => by
    cases hN : rdN t p with
    | none => rw [rdNs_none hN] at h; cases h
    | some z =>
      obtain ⟨v, p2⟩ := z
      by_cases hb : t.getD p2 0 = if n = 0 then 59 else 44
      · rw [rdNs_go hN hb] at h
        have := rdNs_len t n _ _ q h
        rw [List.length_append] at this; simp at this; omega
      · rw [rdNs_bad hN hb] at h; cases h
theorem rdN_99 {t : List Nat} {p : Nat} {q : Nat × Nat} (h : rdN t p = some q) : q.1 ≤ 99 := by
  unfold rdN at h
  split at h
  · split at h <;> cases h
    · show 10 * (t.getD p 0 - 48) + (t.getD (p + 1) 0 - 48) ≤ 99; omega
    · show t.getD p 0 - 48 ≤ 99; omega
  · cases h
theorem rdNs_99 (t : List Nat) : ∀ (n p : Nat) (acc : List Nat) (q : List Nat × Nat), (∀ i, acc.getD i 0 ≤ 99) → rdNs t n p acc = some q → ∀ i, q.1.getD i 0 ≤ 99
  | 0, p, acc, q, ha, h => by cases h; exact ha
  | n + 1, p, acc, q, ha, h => by
    cases hN : rdN t p with
    | none => rw [rdNs_none hN] at h; cases h
    | some z =>
      obtain ⟨v, p2⟩ := z
      by_cases hb : t.getD p2 0 = if n = 0 then 59 else 44
      · rw [rdNs_go hN hb] at h
        exact rdNs_99 t n _ _ q (getD_snoc_le ha (rdN_99 hN)) h
      · rw [rdNs_bad hN hb] at h; cases h
theorem getD_in {t : List Nat} {p : Nat} (h : t.getD p 0 ≠ 0) : p < t.length := Decidable.byContradiction (fun q => h (getD_out (by omega)))

theorem C8_readNumbers {E : f_E} {σ : f_Mem} {t : List Nat} (htx : TxM σ t) (htl : σ 0 8 = iI (t.length : Nat)) (htb : t.length ≤ 200) (ht : Tx t) {n p : Nat} (hn : n ≤ 5) (hp : σ 0 9 = iI (p : Nat)) (hpb : p ≤ t.length) {o : Option (List Nat × Nat)} (ho : rdNs t n p [] = o) : FZ E sM mX8_readNumbers 1 [.ref (f_ad E 0), .int (iI n)] σ (oB o) (fun u => (∀ q, o = some q → NmM u q.1 ∧ u 0 9 = iI (q.2 : Nat)) ∧ FrM [5] [9] σ u) := by
  refine FZ.intro rfl (Nat.le_of_ble_eq_true rfl) (L0 := [some (.ref (f_ad E 0)), some (.int (iI n)), none, none, none, none]) rfl (fun G hR => ?_)
  refine g_iconst hR dX8_readNumbers_0 (g_istore_2 hR dX8_readNumbers_1 rfl ?_)
  have loop : ∀ (mm : Nat) (k p : Nat) (acc : List Nat) (u : f_Mem), mm = n - k → k ≤ n → acc.length = k → o = rdNs t (n - k) p acc → u 0 9 = iI (p : Nat) → NmM u acc → FrM [5] [9] σ u → p ≤ t.length → ∀ x3 x4 x5 : Option Value, G 2 [some (.ref (f_ad E 0)), some (.int (iI n)), some (.int (iI k)), x3, x4, x5] [] u := by
    intro mm
    induction mm using Nat.strongRecOn with
    | ind mm ih =>
      intro k p acc u hm hk hka ho2 hpp hNm hF hpb x3 x4 x5
      have hnn : u 0 8 = iI (t.length : Nat) := (hF.2 8 (by decide)).trans htl
      have hle8 := ht p
      have hle7 := ht (p + 1)
      refine g_iload_2 hR dX8_readNumbers_2 (g_iload_1 hR dX8_readNumbers_3 (g_icmp_ge hR 166 dX8_readNumbers_4 (by decide) (by omega) (by omega) (fun zc4 => ?_) (fun zc4 => ?_)))
      · skip
        refine g_iconst hR dX8_readNumbers_166 ?_
        rw [show n - k = 0 from by omega] at ho2
        exact g_zret hR dX8_readNumbers_167 rfl (Or.inr rfl) (by rw [ho2]; rfl) ⟨(fun q hq => by rw [ho2] at hq; cases hq; exact ⟨hNm, hpp⟩), hF⟩
      · skip
        obtain ⟨m, em⟩ : ∃ m, n - k = m + 1 := ⟨n - k - 1, by omega⟩
        rw [em] at ho2
        have hle9 : ∀ i, t.getD i 0 ≤ 126 := ht
        have k91 : ∀ (u7 : f_Mem) (p2 v : Nat) (x5 : Option Value), (p2 = p → rdN t p = none) → (p2 ≠ p → rdN t p = some (v, p2)) → u7 0 9 = iI (p2 : Nat) → NmM u7 acc → FrM [5] [9] σ u7 → p2 ≤ t.length → G 91 [some (.ref (f_ad E 0)), some (.int (iI n)), some (.int (iI k)), some (.int (iI p)), some (.int (iI v)), x5] [] u7 := by
          intro u7 p2 v x5 hN2 hS2 hp7 hN7 hF7 hp2
          refine g_aload_0 hR dX8_readNumbers_91 (g_getR hR dX8_readNumbers_92 flX8_22 (by decide) rfl rfl (g_iload_2 hR dX8_readNumbers_95 (g_iload_4 hR dX8_readNumbers_96 (g_astU hR (acc.length) dX8_readNumbers_98 (by decide) rfl (by decide) (by omega) (by omega) (fun u8 hu8 => ?_)))))
          have hF8 : FrM [5] [9] σ u8 := hF7.tr (FrM.ar hu8 (by decide) (by decide))
          have hp8 : u8 0 9 = iI (p2 : Nat) := (congrFun (hu8.2.2 0 (by omega)) 9).trans hp7
          have hn8 : u8 0 8 = iI (t.length : Nat) := (hF8.2 8 (by decide)).trans htl
          have hN8 := hN7.add hu8
          refine g_iload_2 hR dX8_readNumbers_99 (g_iload_1 hR dX8_readNumbers_100 (g_iconst hR dX8_readNumbers_101 (g_isub hR dX8_readNumbers_102 (g_icmp_ne hR 111 dX8_readNumbers_103 (by decide) (by omega) (by omega) (fun zc103 => ?_) (fun zc103 => ?_)))))
          · skip
            refine g_bipush hR dX8_readNumbers_111 (by decide) (g_istore_5 hR dX8_readNumbers_113 rfl (g_aload_0 hR dX8_readNumbers_115 (g_getI hR _ dX8_readNumbers_116 flX8_91 (by decide) rfl rfl hp8 (g_iload_3 hR dX8_readNumbers_119 (g_icmp_eq hR 148 dX8_readNumbers_120 (by decide) (by omega) (by omega) (fun zc120 => ?_) (fun zc120 => ?_))))))
            · skip
              refine g_iconst hR dX8_readNumbers_148 ?_
              exact g_zret hR dX8_readNumbers_149 rfl (Or.inl rfl) (by rw [ho2, rdNs_none (hN2 (by omega))]; rfl) ⟨(fun q hq => by rw [ho2, rdNs_none (hN2 (by omega))] at hq; cases hq), hF8⟩
            · skip
              refine g_aload_0 hR dX8_readNumbers_123 (g_getI hR _ dX8_readNumbers_124 flX8_91 (by decide) rfl rfl hp8 (g_aload_0 hR dX8_readNumbers_127 (g_getI hR _ dX8_readNumbers_128 flX8_88 (by decide) rfl rfl hn8 (g_icmp_eq hR 148 dX8_readNumbers_131 (by decide) (by omega) (by omega) (fun zc131 => ?_) (fun zc131 => ?_)))))
              · skip
                refine g_iconst hR dX8_readNumbers_148 ?_
                exact g_zret hR dX8_readNumbers_149 rfl (Or.inl rfl) (by rw [ho2, rdNs_bad (hS2 (by omega)) (by rw [getD_out (by omega)]; split <;> omega)]; rfl) ⟨(fun q hq => by rw [ho2, rdNs_bad (hS2 (by omega)) (by rw [getD_out (by omega)]; split <;> omega)] at hq; cases hq), hF8⟩
              · skip
                refine g_aload_0 hR dX8_readNumbers_134 (g_getR hR dX8_readNumbers_135 flX8_19 (by decide) rfl rfl (g_aload_0 hR dX8_readNumbers_138 (g_getI hR _ dX8_readNumbers_139 flX8_91 (by decide) rfl rfl hp8 (g_aldU hR _ dX8_readNumbers_142 (by decide) rfl (by decide) (by omega) (((hF8.1 4 (by decide) (by decide)) ▸ htx p2 (by omega))) (by omega) (g_iload_5 hR dX8_readNumbers_143 (g_icmp_eq hR 150 dX8_readNumbers_145 (by decide) (by have := hle9 p2; omega) (by omega) (fun zc145 => ?_) (fun zc145 => ?_)))))))
                · skip
                  refine g_aload_0 hR dX8_readNumbers_150 (g_dup hR dX8_readNumbers_151 rfl (g_getI hR _ dX8_readNumbers_152 flX8_91 (by decide) rfl rfl hp8 (g_iconst hR dX8_readNumbers_155 (g_iadd hR dX8_readNumbers_156 (g_putU hR dX8_readNumbers_157 fpX8_91 (by decide) rfl rfl (fun u9 hu9 => (g_iinc_2 hR dX8_readNumbers_160 rfl (g_goto hR 2 dX8_readNumbers_163 (by decide) ?_))))))))
                  refine ih (n - (k + 1)) (by omega) (k + 1) (p2 + 1) (acc ++ [v]) u9 rfl (by omega) (by rw [List.length_append, hka]; rfl) (by rw [ho2, rdNs_go (hS2 (by omega)) (by rw [if_neg (by omega)]; omega), show n - (k + 1) = m from by omega]) (by rw [hu9.1]; rfl) (hN8.fr (hu9.2.2 5 (by omega))) (hF8.tr (FrM.fd hu9 (by decide))) (by omega) _ _ _
                · skip
                  refine g_iconst hR dX8_readNumbers_148 ?_
                  exact g_zret hR dX8_readNumbers_149 rfl (Or.inl rfl) (by rw [ho2, rdNs_bad (hS2 (by omega)) (by rw [if_neg (by omega)]; omega)]; rfl) ⟨(fun q hq => by rw [ho2, rdNs_bad (hS2 (by omega)) (by rw [if_neg (by omega)]; omega)] at hq; cases hq), hF8⟩
          · skip
            refine g_bipush hR dX8_readNumbers_106 (by decide) (g_goto hR 113 dX8_readNumbers_108 (by decide) (g_istore_5 hR dX8_readNumbers_113 rfl (g_aload_0 hR dX8_readNumbers_115 (g_getI hR _ dX8_readNumbers_116 flX8_91 (by decide) rfl rfl hp8 (g_iload_3 hR dX8_readNumbers_119 (g_icmp_eq hR 148 dX8_readNumbers_120 (by decide) (by omega) (by omega) (fun zc120 => ?_) (fun zc120 => ?_)))))))
            · skip
              refine g_iconst hR dX8_readNumbers_148 ?_
              exact g_zret hR dX8_readNumbers_149 rfl (Or.inl rfl) (by rw [ho2, rdNs_none (hN2 (by omega))]; rfl) ⟨(fun q hq => by rw [ho2, rdNs_none (hN2 (by omega))] at hq; cases hq), hF8⟩
            · skip
              refine g_aload_0 hR dX8_readNumbers_123 (g_getI hR _ dX8_readNumbers_124 flX8_91 (by decide) rfl rfl hp8 (g_aload_0 hR dX8_readNumbers_127 (g_getI hR _ dX8_readNumbers_128 flX8_88 (by decide) rfl rfl hn8 (g_icmp_eq hR 148 dX8_readNumbers_131 (by decide) (by omega) (by omega) (fun zc131 => ?_) (fun zc131 => ?_)))))
              · skip
                refine g_iconst hR dX8_readNumbers_148 ?_
                exact g_zret hR dX8_readNumbers_149 rfl (Or.inl rfl) (by rw [ho2, rdNs_bad (hS2 (by omega)) (by rw [getD_out (by omega)]; split <;> omega)]; rfl) ⟨(fun q hq => by rw [ho2, rdNs_bad (hS2 (by omega)) (by rw [getD_out (by omega)]; split <;> omega)] at hq; cases hq), hF8⟩
              · skip
                refine g_aload_0 hR dX8_readNumbers_134 (g_getR hR dX8_readNumbers_135 flX8_19 (by decide) rfl rfl (g_aload_0 hR dX8_readNumbers_138 (g_getI hR _ dX8_readNumbers_139 flX8_91 (by decide) rfl rfl hp8 (g_aldU hR _ dX8_readNumbers_142 (by decide) rfl (by decide) (by omega) (((hF8.1 4 (by decide) (by decide)) ▸ htx p2 (by omega))) (by omega) (g_iload_5 hR dX8_readNumbers_143 (g_icmp_eq hR 150 dX8_readNumbers_145 (by decide) (by have := hle9 p2; omega) (by omega) (fun zc145 => ?_) (fun zc145 => ?_)))))))
                · skip
                  refine g_aload_0 hR dX8_readNumbers_150 (g_dup hR dX8_readNumbers_151 rfl (g_getI hR _ dX8_readNumbers_152 flX8_91 (by decide) rfl rfl hp8 (g_iconst hR dX8_readNumbers_155 (g_iadd hR dX8_readNumbers_156 (g_putU hR dX8_readNumbers_157 fpX8_91 (by decide) rfl rfl (fun u9 hu9 => (g_iinc_2 hR dX8_readNumbers_160 rfl (g_goto hR 2 dX8_readNumbers_163 (by decide) ?_))))))))
                  refine ih (n - (k + 1)) (by omega) (k + 1) (p2 + 1) (acc ++ [v]) u9 rfl (by omega) (by rw [List.length_append, hka]; rfl) (by rw [ho2, rdNs_go (hS2 (by omega)) (by rw [if_pos (by omega)]; omega), show n - (k + 1) = m from by omega]) (by rw [hu9.1]; rfl) (hN8.fr (hu9.2.2 5 (by omega))) (hF8.tr (FrM.fd hu9 (by decide))) (by omega) _ _ _
                · skip
                  refine g_iconst hR dX8_readNumbers_148 ?_
                  exact g_zret hR dX8_readNumbers_149 rfl (Or.inl rfl) (by rw [ho2, rdNs_bad (hS2 (by omega)) (by rw [if_pos (by omega)]; omega)]; rfl) ⟨(fun q hq => by rw [ho2, rdNs_bad (hS2 (by omega)) (by rw [if_pos (by omega)]; omega)] at hq; cases hq), hF8⟩
        refine g_aload_0 hR dX8_readNumbers_7 (g_getI hR _ dX8_readNumbers_8 flX8_91 (by decide) rfl rfl hpp (g_istore_3 hR dX8_readNumbers_11 rfl (g_iconst hR dX8_readNumbers_12 (g_istore_4 hR dX8_readNumbers_13 rfl (g_aload_0 hR dX8_readNumbers_15 (g_getI hR _ dX8_readNumbers_16 flX8_91 (by decide) rfl rfl hpp (g_aload_0 hR dX8_readNumbers_19 (g_getI hR _ dX8_readNumbers_20 flX8_88 (by decide) rfl rfl hnn (g_icmp_ge hR 91 dX8_readNumbers_23 (by decide) (by omega) (by omega) (fun zc23 => ?_) (fun zc23 => ?_))))))))))
        · skip
          exact k91 u p 0 _ (fun _ => by unfold rdN; rw [if_neg (by rw [getD_out (show t.length ≤ p from by omega)]; omega)]) (fun q => absurd rfl q) hpp hNm hF (by omega)
        · skip
          refine g_aload_0 hR dX8_readNumbers_26 (g_getI hR _ dX8_readNumbers_27 flX8_91 (by decide) rfl rfl hpp (g_iload_3 hR dX8_readNumbers_30 (g_iconst hR dX8_readNumbers_31 (g_iadd hR dX8_readNumbers_32 (g_icmp_ge hR 91 dX8_readNumbers_33 (by decide) (by omega) (by omega) (fun zc33 => ?_) (fun zc33 => ?_))))))
          · skip
            exact absurd zc33 (by omega)
          · skip
            refine g_aload_0 hR dX8_readNumbers_36 (g_getR hR dX8_readNumbers_37 flX8_19 (by decide) rfl rfl (g_aload_0 hR dX8_readNumbers_40 (g_getI hR _ dX8_readNumbers_41 flX8_91 (by decide) rfl rfl hpp (g_aldU hR _ dX8_readNumbers_44 (by decide) rfl (by decide) (by omega) ((hF.1 4 (by decide) (by decide)) ▸ htx (p) (by omega)) (by omega) (g_i2l hR dX8_readNumbers_45 (by omega) (g_ldc2 hR (48) dX8_readNumbers_46 kcX8_94 (by decide) (g_ldc2 hR (57) dX8_readNumbers_49 kcX8_96 (by decide) (g_callS3P hR dX8_readNumbers_52 mlX8_78 (C8_in (by omega) (by omega) (by omega)) (by decide) (Nat.le_of_ble_eq_true rfl) (g_if_eq hR 91 dX8_readNumbers_55 (by decide) (by split <;> omega) (fun zc55 => ?_) (fun zc55 => ?_))))))))))
            · skip
              exact k91 u p 0 _ (fun _ => by unfold rdN; rw [if_neg (by omega)]) (fun q => absurd rfl q) hpp hNm hF (by omega)
            · skip
              refine g_bipush hR dX8_readNumbers_58 (by decide) (g_iload_4 hR dX8_readNumbers_60 (g_imul hR dX8_readNumbers_62 (g_aload_0 hR dX8_readNumbers_63 (g_getR hR dX8_readNumbers_64 flX8_19 (by decide) rfl rfl (g_aload_0 hR dX8_readNumbers_67 (g_getI hR _ dX8_readNumbers_68 flX8_91 (by decide) rfl rfl hpp (g_aldU hR _ dX8_readNumbers_71 (by decide) rfl (by decide) (by omega) ((hF.1 4 (by decide) (by decide)) ▸ htx (p) (by omega)) (by omega) (g_iadd hR dX8_readNumbers_72 (g_bipush hR dX8_readNumbers_73 (by decide) (g_isub hR dX8_readNumbers_75 (g_istore_4 hR dX8_readNumbers_76 rfl (g_aload_0 hR dX8_readNumbers_78 (g_dup hR dX8_readNumbers_79 rfl (g_getI hR _ dX8_readNumbers_80 flX8_91 (by decide) rfl rfl hpp (g_iconst hR dX8_readNumbers_83 (g_iadd hR dX8_readNumbers_84 (g_putU hR dX8_readNumbers_85 fpX8_91 (by decide) rfl rfl (fun q1 hq1 => ?_))))))))))))))))))
              have hG1 : FrM [5] [9] σ q1 := hF.tr (FrM.fd hq1 (by decide))
              have hr1 := hq1.1
              refine g_goto hR 15 dX8_readNumbers_88 (by decide) (g_aload_0 hR dX8_readNumbers_15 (g_getI hR _ dX8_readNumbers_16 flX8_91 (by decide) rfl rfl hq1.1 (g_aload_0 hR dX8_readNumbers_19 (g_getI hR _ dX8_readNumbers_20 flX8_88 (by decide) rfl rfl ((hG1.2 8 (by decide)).trans htl) (g_icmp_ge hR 91 dX8_readNumbers_23 (by decide) (by omega) (by omega) (fun zc23 => ?_) (fun zc23 => ?_))))))
              · skip
                rw [show 10 * (0 : Int) + (t.getD p 0 : Nat) - 48 = ((t.getD p 0 - 48 : Nat) : Int) from by omega]
                exact k91 q1 (p + 1) (t.getD p 0 - 48) _ (fun q => by omega) (fun _ => by unfold rdN; rw [if_pos (by omega), if_neg (by rw [getD_out (show t.length ≤ p + 1 from by omega)]; omega)]) (by rw [hq1.1]; rfl) (hNm.fr (hq1.2.2 5 (by omega))) hG1 (by omega)
              · skip
                refine g_aload_0 hR dX8_readNumbers_26 (g_getI hR _ dX8_readNumbers_27 flX8_91 (by decide) rfl rfl hq1.1 (g_iload_3 hR dX8_readNumbers_30 (g_iconst hR dX8_readNumbers_31 (g_iadd hR dX8_readNumbers_32 (g_icmp_ge hR 91 dX8_readNumbers_33 (by decide) (by omega) (by omega) (fun zc33 => ?_) (fun zc33 => ?_))))))
                · skip
                  exact absurd zc33 (by omega)
                · skip
                  refine g_aload_0 hR dX8_readNumbers_36 (g_getR hR dX8_readNumbers_37 flX8_19 (by decide) rfl rfl (g_aload_0 hR dX8_readNumbers_40 (g_getI hR _ dX8_readNumbers_41 flX8_91 (by decide) rfl rfl hq1.1 (g_aldU hR _ dX8_readNumbers_44 (by decide) rfl (by decide) (by omega) ((hG1.1 4 (by decide) (by decide)) ▸ htx (p + 1) (by omega)) (by omega) (g_i2l hR dX8_readNumbers_45 (by omega) (g_ldc2 hR (48) dX8_readNumbers_46 kcX8_94 (by decide) (g_ldc2 hR (57) dX8_readNumbers_49 kcX8_96 (by decide) (g_callS3P hR dX8_readNumbers_52 mlX8_78 (C8_in (by omega) (by omega) (by omega)) (by decide) (Nat.le_of_ble_eq_true rfl) (g_if_eq hR 91 dX8_readNumbers_55 (by decide) (by split <;> omega) (fun zc55 => ?_) (fun zc55 => ?_))))))))))
                  · skip
                    rw [show 10 * (0 : Int) + (t.getD p 0 : Nat) - 48 = ((t.getD p 0 - 48 : Nat) : Int) from by omega]
                    exact k91 q1 (p + 1) (t.getD p 0 - 48) _ (fun q => by omega) (fun _ => by unfold rdN; rw [if_pos (by omega), if_neg (by omega)]) (by rw [hq1.1]; rfl) (hNm.fr (hq1.2.2 5 (by omega))) hG1 (by omega)
                  · skip
                    refine g_bipush hR dX8_readNumbers_58 (by decide) (g_iload_4 hR dX8_readNumbers_60 (g_imul hR dX8_readNumbers_62 (g_aload_0 hR dX8_readNumbers_63 (g_getR hR dX8_readNumbers_64 flX8_19 (by decide) rfl rfl (g_aload_0 hR dX8_readNumbers_67 (g_getI hR _ dX8_readNumbers_68 flX8_91 (by decide) rfl rfl hq1.1 (g_aldU hR _ dX8_readNumbers_71 (by decide) rfl (by decide) (by omega) ((hG1.1 4 (by decide) (by decide)) ▸ htx (p + 1) (by omega)) (by omega) (g_iadd hR dX8_readNumbers_72 (g_bipush hR dX8_readNumbers_73 (by decide) (g_isub hR dX8_readNumbers_75 (g_istore_4 hR dX8_readNumbers_76 rfl (g_aload_0 hR dX8_readNumbers_78 (g_dup hR dX8_readNumbers_79 rfl (g_getI hR _ dX8_readNumbers_80 flX8_91 (by decide) rfl rfl hq1.1 (g_iconst hR dX8_readNumbers_83 (g_iadd hR dX8_readNumbers_84 (g_putU hR dX8_readNumbers_85 fpX8_91 (by decide) rfl rfl (fun q2 hq2 => ?_))))))))))))))))))
                    have hG2 : FrM [5] [9] σ q2 := hG1.tr (FrM.fd hq2 (by decide))
                    refine g_goto hR 15 dX8_readNumbers_88 (by decide) (g_aload_0 hR dX8_readNumbers_15 (g_getI hR _ dX8_readNumbers_16 flX8_91 (by decide) rfl rfl hq2.1 (g_aload_0 hR dX8_readNumbers_19 (g_getI hR _ dX8_readNumbers_20 flX8_88 (by decide) rfl rfl ((hG2.2 8 (by decide)).trans htl) (g_icmp_ge hR 91 dX8_readNumbers_23 (by decide) (by omega) (by omega) (fun zc23 => ?_) (fun zc23 => ?_))))))
                    · skip
                      rw [show 10 * (10 * (0 : Int) + (t.getD p 0 : Nat) - 48) + (t.getD (p + 1) 0 : Nat) - 48 = ((10 * (t.getD p 0 - 48) + (t.getD (p + 1) 0 - 48) : Nat) : Int) from by omega]
                      exact k91 q2 (p + 2) (10 * (t.getD p 0 - 48) + (t.getD (p + 1) 0 - 48)) _ (fun q => by omega) (fun _ => by unfold rdN; rw [if_pos (by omega), if_pos (by omega)]) (by rw [hq2.1]; exact congrArg iI (by omega)) ((hNm.fr (hq1.2.2 5 (by omega))).fr (hq2.2.2 5 (by omega))) hG2 (by omega)
                    · skip
                      refine g_aload_0 hR dX8_readNumbers_26 (g_getI hR _ dX8_readNumbers_27 flX8_91 (by decide) rfl rfl hq2.1 (g_iload_3 hR dX8_readNumbers_30 (g_iconst hR dX8_readNumbers_31 (g_iadd hR dX8_readNumbers_32 (g_icmp_ge hR 91 dX8_readNumbers_33 (by decide) (by omega) (by omega) (fun zc33 => ?_) (fun zc33 => ?_))))))
                      · skip
                        rw [show 10 * (10 * (0 : Int) + (t.getD p 0 : Nat) - 48) + (t.getD (p + 1) 0 : Nat) - 48 = ((10 * (t.getD p 0 - 48) + (t.getD (p + 1) 0 - 48) : Nat) : Int) from by omega]
                        exact k91 q2 (p + 2) (10 * (t.getD p 0 - 48) + (t.getD (p + 1) 0 - 48)) _ (fun q => by omega) (fun _ => by unfold rdN; rw [if_pos (by omega), if_pos (by omega)]) (by rw [hq2.1]; exact congrArg iI (by omega)) ((hNm.fr (hq1.2.2 5 (by omega))).fr (hq2.2.2 5 (by omega))) hG2 (by omega)
                      · skip
                        exact absurd zc33 (by omega)
  exact loop n 0 p [] σ (by omega) (by omega) rfl ho.symm hp (fun i hi => absurd hi (by simp)) FrM.rf (by omega) _ _ _

theorem takeK_no {l : List Nat} {L : Les} (h : ¬ ((Lm L).length < 6 ∧ l.getD 0 0 ≤ 31 ∧ l.getD 1 0 ≤ 5 ∧ l.getD 2 0 ≤ 63 ∧ l.getD 3 0 ≤ 20 ∧ 1 ≤ l.getD 4 0 ∧ l.getD 4 0 ≤ 9)) : takeK l L = none := if_neg h
theorem takeK_yes {l : List Nat} {L : Les} (h : (Lm L).length < 6 ∧ l.getD 0 0 ≤ 31 ∧ l.getD 1 0 ≤ 5 ∧ l.getD 2 0 ≤ 63 ∧ l.getD 3 0 ≤ 20 ∧ 1 ≤ l.getD 4 0 ∧ l.getD 4 0 ≤ 9) : takeK l L = some (Lm L ++ [l.getD 0 0], Lr L ++ [l.getD 1 0], Lp L ++ [l.getD 2 0], Lw L ++ [l.getD 3 0], Lc L ++ [l.getD 4 0], Lrow L, Lsort L, Lfirst L) := if_pos h
theorem LsM.add {σ u : f_Mem} {l : List Nat} {L : Les} (ok : LesOK L) (h : LsM σ 6 L) (h1 : ∀ i, i < 5 → u 6 (5 * (Lm L).length + i) = iI (l.getD i 0 : Nat)) (h2 : ∀ i, i < 5 * (Lm L).length → u 6 i = σ 6 i) : LsM u 6 (Lm L ++ [l.getD 0 0], Lr L ++ [l.getD 1 0], Lp L ++ [l.getD 2 0], Lw L ++ [l.getD 3 0], Lc L ++ [l.getD 4 0], Lrow L, Lsort L, Lfirst L) := by
  obtain ⟨a1, a2, a3, a4, a5⟩ := ok.1
  intro k hk
  have hk : k < (Lm L ++ [l.getD 0 0]).length := hk
  have e : ∀ (m : List Nat) (x : Nat), m.length = (Lm L).length → (m ++ [x]).getD k 0 = if k < (Lm L).length then m.getD k 0 else x := fun m x hm => by
    rw [getD_snoc (by simp at hk ⊢; omega), hm]
  show u 6 (5 * k) = iI ((Lm L ++ [l.getD 0 0]).getD k 0 : Nat) ∧ u 6 (5 * k + 1) = iI ((Lr L ++ [l.getD 1 0]).getD k 0 : Nat) ∧ u 6 (5 * k + 2) = iI ((Lp L ++ [l.getD 2 0]).getD k 0 : Nat) ∧ u 6 (5 * k + 3) = iI ((Lw L ++ [l.getD 3 0]).getD k 0 : Nat) ∧ u 6 (5 * k + 4) = iI ((Lc L ++ [l.getD 4 0]).getD k 0 : Nat)
  rw [e _ _ rfl, e _ _ a2, e _ _ a3, e _ _ a4, e _ _ a5]
  by_cases q : k < (Lm L).length
  · rw [if_pos q, if_pos q, if_pos q, if_pos q, if_pos q, h2 _ (by omega), h2 _ (by omega), h2 _ (by omega), h2 _ (by omega), h2 _ (by omega)]
    exact h k q
  · rw [if_neg q, if_neg q, if_neg q, if_neg q, if_neg q]
    have ek : k = (Lm L).length := by simp at hk; omega
    subst ek
    exact ⟨h1 0 (by omega), h1 1 (by omega), h1 2 (by omega), h1 3 (by omega), h1 4 (by omega)⟩

theorem C8_readKind {E : f_E} {σ : f_Mem} {t : List Nat} {L : Les} (h : RdL σ t L) (ok : LesOK L) {l : List Nat} (hl : NmM σ l) (hl5 : l.length = 5) (h99 : ∀ i, l.getD i 0 ≤ 99) {o : Option Les} (ho : takeK l L = o) : FZ E sM mX8_readKind 2 [.ref (f_ad E 0)] σ (oB o) (fun u => (∀ q, o = some q → RdL u t q) ∧ FrM [6] [12] σ u) := by
  have hK6 := ok.k
  have b0 := h99 0
  have b1 := h99 1
  have b2 := h99 2
  have b3 := h99 3
  have b4 := h99 4
  refine FZ.intro rfl (Nat.le_of_ble_eq_true rfl) (L0 := [some (.ref (f_ad E 0)), none, none]) rfl (fun G hR => ?_)
  have k94F : ¬ ((Lm L).length < 6 ∧ l.getD 0 0 ≤ 31 ∧ l.getD 1 0 ≤ 5 ∧ l.getD 2 0 ≤ 63 ∧ l.getD 3 0 ≤ 20 ∧ 1 ≤ l.getD 4 0 ∧ l.getD 4 0 ≤ 9) → G 94 [some (.ref (f_ad E 0)), none, none] [.int (iI 0)] σ := by
    intro hc
    refine g_istore_1 hR dX8_readKind_94 rfl (g_iconst hR dX8_readKind_95 (g_istore_2 hR dX8_readKind_96 rfl (g_iload_2 hR dX8_readKind_97 (g_iconst hR dX8_readKind_98 (g_icmp_ge hR 131 dX8_readKind_99 (by decide) (by omega) (by omega) (fun zc99 => ?_) (fun zc99 => ?_))))))
    · skip
      exact absurd zc99 (by omega)
    · skip
      refine g_iload_1 hR dX8_readKind_102 (g_if_eq hR 131 dX8_readKind_103 (by decide) (by omega) (fun zc103 => ?_) (fun zc103 => ?_))
      · skip
        refine g_aload_0 hR dX8_readKind_131 (g_dup hR dX8_readKind_132 rfl (g_getI hR _ dX8_readKind_133 flX8_98 (by decide) rfl rfl h.2.1.2 (g_iload_1 hR dX8_readKind_136 (g_if_eq hR 144 dX8_readKind_137 (by decide) (by omega) (fun zc137 => ?_) (fun zc137 => ?_)))))
        · skip
          refine g_iconst hR dX8_readKind_144 (g_iadd hR dX8_readKind_145 (g_putU hR dX8_readKind_146 fpX8_98 (by decide) rfl rfl (fun w2 hw2 => (g_iload_1 hR dX8_readKind_149 ?_))))
          rw [takeK_no hc] at ho
          subst ho
          exact g_zret hR dX8_readKind_150 rfl (Or.inl rfl) rfl ⟨(fun q hq => by cases hq), FrM.fd hw2 (by decide)⟩
        · skip
          exact absurd rfl zc137
      · skip
        exact absurd rfl zc103
  have k94T : ((Lm L).length < 6 ∧ l.getD 0 0 ≤ 31 ∧ l.getD 1 0 ≤ 5 ∧ l.getD 2 0 ≤ 63 ∧ l.getD 3 0 ≤ 20 ∧ 1 ≤ l.getD 4 0 ∧ l.getD 4 0 ≤ 9) → G 94 [some (.ref (f_ad E 0)), none, none] [.int (iI 1)] σ := by
    intro hc
    refine g_istore_1 hR dX8_readKind_94 rfl (g_iconst hR dX8_readKind_95 (g_istore_2 hR dX8_readKind_96 rfl ?_))
    have loop : ∀ (mm : Nat) (j : Nat) (u : f_Mem), mm = 5 - j → j ≤ 5 → (∀ i, i < j → u 6 (5 * (Lm L).length + i) = iI (l.getD i 0 : Nat)) → (∀ i, i < 5 * (Lm L).length → u 6 i = σ 6 i) → FrM [6] [] σ u → G 97 [some (.ref (f_ad E 0)), some (.int (iI 1)), some (.int (iI j))] [] u := by
      intro mm
      induction mm using Nat.strongRecOn with
      | ind mm ih =>
        intro j u hm hj h1 h2 hF
        refine g_iload_2 hR dX8_readKind_97 (g_iconst hR dX8_readKind_98 (g_icmp_ge hR 131 dX8_readKind_99 (by decide) (by omega) (by omega) (fun zc99 => ?_) (fun zc99 => ?_)))
        · skip
          refine g_aload_0 hR dX8_readKind_131 (g_dup hR dX8_readKind_132 rfl (g_getI hR _ dX8_readKind_133 flX8_98 (by decide) rfl rfl ((hF.2 12 (by decide)).trans h.2.1.2) (g_iload_1 hR dX8_readKind_136 (g_if_eq hR 144 dX8_readKind_137 (by decide) (by omega) (fun zc137 => ?_) (fun zc137 => ?_)))))
          · skip
            exact absurd zc137 (by omega)
          · skip
            refine g_iconst hR dX8_readKind_140 (g_goto hR 145 dX8_readKind_141 (by decide) (g_iadd hR dX8_readKind_145 (g_putU hR dX8_readKind_146 fpX8_98 (by decide) rfl rfl (fun w2 hw2 => (g_iload_1 hR dX8_readKind_149 ?_)))))
            rw [takeK_yes hc] at ho
            subst ho
            obtain rfl : j = 5 := by omega
            have hF2 : FrM [6] [12] σ w2 := (hF.mono (by decide) (by decide)).tr (FrM.fd hw2 (by decide))
            exact g_zret hR dX8_readKind_150 rfl (Or.inr rfl) rfl ⟨(fun q hq => by cases hq; exact ⟨⟨h.1.1.fr (hF2.1 4 (by decide) (by decide)), (hF2.2 8 (by decide)).trans h.1.2⟩, ⟨(h.2.1.1.add ok h1 h2).fr (hw2.2.2 6 (by omega)), by rw [hw2.1]; exact congrArg iI (show ((Lm L).length : Int) + 1 = (((Lm L ++ [l.getD 0 0]).length : Nat) : Int) from by rw [List.length_append]; rfl)⟩, ⟨(hF2.2 13 (by decide)).trans h.2.2.1.1, (hF2.2 14 (by decide)).trans h.2.2.1.2⟩, ⟨h.2.2.2.1.fr (hF2.1 7 (by decide) (by decide)), (hF2.2 16 (by decide)).trans h.2.2.2.2⟩⟩), hF2⟩
        · skip
          refine g_iload_1 hR dX8_readKind_102 (g_if_eq hR 131 dX8_readKind_103 (by decide) (by omega) (fun zc103 => ?_) (fun zc103 => ?_))
          · skip
            exact absurd zc103 (by omega)
          · skip
            refine g_aload_0 hR dX8_readKind_106 (g_getR hR dX8_readKind_107 flX8_25 (by decide) rfl rfl (g_iconst hR dX8_readKind_110 (g_aload_0 hR dX8_readKind_111 (g_getI hR _ dX8_readKind_112 flX8_98 (by decide) rfl rfl ((hF.2 12 (by decide)).trans h.2.1.2) (g_imul hR dX8_readKind_115 (g_iload_2 hR dX8_readKind_116 (g_iadd hR dX8_readKind_117 (g_aload_0 hR dX8_readKind_118 (g_getR hR dX8_readKind_119 flX8_22 (by decide) rfl rfl (g_iload_2 hR dX8_readKind_122 (g_aldU hR _ dX8_readKind_123 (by decide) rfl (by decide) (by omega) ((hF.1 5 (by decide) (by decide)) ▸ hl j (by omega)) (by omega) (g_astU hR (5 * (Lm L).length + j) dX8_readKind_124 (by decide) rfl (by decide) (by omega) (by omega) (fun w1 hw1 => (g_iinc_2 hR dX8_readKind_125 rfl (g_goto hR 97 dX8_readKind_128 (by decide) ?_)))))))))))))))
            refine ih (5 - (j + 1)) (by omega) (j + 1) w1 rfl (by omega) (fun i hi => ?_) (fun i hi => (hw1.2.1 i (by omega)).trans (h2 i hi)) (hF.tr (FrM.ar hw1 (by decide) (by decide)))
            by_cases q : i = j
            · rw [q]; exact hw1.1
            · rw [hw1.2.1 _ (by omega)]; exact h1 i (by omega)
    exact loop 5 0 σ (by omega) (by omega) (fun i hi => absurd hi (by omega)) (fun _ _ => rfl) FrM.rf
  refine g_aload_0 hR dX8_readKind_0 (g_getI hR _ dX8_readKind_1 flX8_98 (by decide) rfl rfl h.2.1.2 (g_bipush hR dX8_readKind_4 (by decide) (g_icmp_ge hR 93 dX8_readKind_6 (by decide) (by omega) (by omega) (fun zc6 => ?_) (fun zc6 => ?_))))
  · skip
    refine g_iconst hR dX8_readKind_93 ?_
    exact k94F (by omega)
  · skip
    refine g_aload_0 hR dX8_readKind_9 (g_getR hR dX8_readKind_10 flX8_22 (by decide) rfl rfl (g_iconst hR dX8_readKind_13 (g_aldU hR _ dX8_readKind_14 (by decide) rfl (by decide) (by omega) (hl 0 (by omega)) (by omega) (g_i2l hR dX8_readKind_15 (by omega) (g_lconst hR 0 dX8_readKind_16 (by decide) (g_ldc2 hR (31) dX8_readKind_17 kcX8_101 (by decide) (g_callS3P hR dX8_readKind_20 mlX8_78 (C8_in (by omega) (by omega) (by omega)) (by decide) (Nat.le_of_ble_eq_true rfl) (g_if_eq hR 93 dX8_readKind_23 (by decide) (by split <;> omega) (fun zc23 => ?_) (fun zc23 => ?_)))))))))
    · skip
      refine g_iconst hR dX8_readKind_93 ?_
      exact k94F (by omega)
    · skip
      refine g_aload_0 hR dX8_readKind_26 (g_getR hR dX8_readKind_27 flX8_22 (by decide) rfl rfl (g_iconst hR dX8_readKind_30 (g_aldU hR _ dX8_readKind_31 (by decide) rfl (by decide) (by omega) (hl 1 (by omega)) (by omega) (g_callS1P hR dX8_readKind_32 mlX8_103 (C8_isDoing (by omega)) (by decide) (Nat.le_of_ble_eq_true rfl) (g_if_eq hR 93 dX8_readKind_35 (by decide) (by split <;> omega) (fun zc35 => ?_) (fun zc35 => ?_))))))
      · skip
        refine g_iconst hR dX8_readKind_93 ?_
        exact k94F (by omega)
      · skip
        refine g_aload_0 hR dX8_readKind_38 (g_getR hR dX8_readKind_39 flX8_22 (by decide) rfl rfl (g_iconst hR dX8_readKind_42 (g_aldU hR _ dX8_readKind_43 (by decide) rfl (by decide) (by omega) (hl 2 (by omega)) (by omega) (g_i2l hR dX8_readKind_44 (by omega) (g_lconst hR 0 dX8_readKind_45 (by decide) (g_ldc2 hR (63) dX8_readKind_46 kcX8_107 (by decide) (g_callS3P hR dX8_readKind_49 mlX8_78 (C8_in (by omega) (by omega) (by omega)) (by decide) (Nat.le_of_ble_eq_true rfl) (g_if_eq hR 93 dX8_readKind_52 (by decide) (by split <;> omega) (fun zc52 => ?_) (fun zc52 => ?_)))))))))
        · skip
          refine g_iconst hR dX8_readKind_93 ?_
          exact k94F (by omega)
        · skip
          refine g_aload_0 hR dX8_readKind_55 (g_getR hR dX8_readKind_56 flX8_22 (by decide) rfl rfl (g_iconst hR dX8_readKind_59 (g_aldU hR _ dX8_readKind_60 (by decide) rfl (by decide) (by omega) (hl 3 (by omega)) (by omega) (g_i2l hR dX8_readKind_61 (by omega) (g_lconst hR 0 dX8_readKind_62 (by decide) (g_ldc2 hR (20) dX8_readKind_63 kcX8_109 (by decide) (g_callS3P hR dX8_readKind_66 mlX8_78 (C8_in (by omega) (by omega) (by omega)) (by decide) (Nat.le_of_ble_eq_true rfl) (g_if_eq hR 93 dX8_readKind_69 (by decide) (by split <;> omega) (fun zc69 => ?_) (fun zc69 => ?_)))))))))
          · skip
            refine g_iconst hR dX8_readKind_93 ?_
            exact k94F (by omega)
          · skip
            refine g_aload_0 hR dX8_readKind_72 (g_getR hR dX8_readKind_73 flX8_22 (by decide) rfl rfl (g_iconst hR dX8_readKind_76 (g_aldU hR _ dX8_readKind_77 (by decide) rfl (by decide) (by omega) (hl 4 (by omega)) (by omega) (g_i2l hR dX8_readKind_78 (by omega) (g_lconst hR 1 dX8_readKind_79 (by decide) (g_ldc2 hR (9) dX8_readKind_80 kcX8_111 (by decide) (g_callS3P hR dX8_readKind_83 mlX8_78 (C8_in (by omega) (by omega) (by omega)) (by decide) (Nat.le_of_ble_eq_true rfl) (g_if_eq hR 93 dX8_readKind_86 (by decide) (by split <;> omega) (fun zc86 => ?_) (fun zc86 => ?_)))))))))
            · skip
              refine g_iconst hR dX8_readKind_93 ?_
              exact k94F (by omega)
            · skip
              refine g_iconst hR dX8_readKind_89 (g_goto hR 94 dX8_readKind_90 (by decide) ?_)
              exact k94T (by omega)
theorem C8_readItem {E : f_E} {σ : f_Mem} {t : List Nat} {L : Les} (h : RdL σ t L) (ok : LesOK L) (htb : t.length ≤ 200) (ht : Tx t) {p : Nat} (hp : σ 0 9 = iI (p : Nat)) (hpt : p < t.length) {o : Option (Nat × Les)} (ho : rdItem t p L = o) : FZ E sM mX8_readItem 3 [.ref (f_ad E 0)] σ (oB o) (fun u => (∀ q, o = some q → RdL u t q.2 ∧ u 0 9 = iI (q.1 : Nat)) ∧ FrM [5, 6, 7] [9, 12, 13, 14, 16] σ u) := by
  have hrl := ok.rl
  have hK6 := ok.k
  obtain ⟨c, hcp⟩ : ∃ c, c = t.getD p 0 := ⟨_, rfl⟩
  have hc := h.1.1 p hpt
  rw [← hcp] at hc
  have hc9 : c ≤ 126 := by rw [hcp]; exact ht p
  refine FZ.intro rfl (Nat.le_of_ble_eq_true rfl) (L0 := [some (.ref (f_ad E 0)), none, none, none]) rfl (fun G hR => ?_)
  refine g_aload_0 hR dX8_readItem_0 (g_getR hR dX8_readItem_1 flX8_19 (by decide) rfl rfl (g_aload_0 hR dX8_readItem_4 (g_getI hR _ dX8_readItem_5 flX8_91 (by decide) rfl rfl hp (g_aldU hR _ dX8_readItem_8 (by decide) rfl (by decide) (by omega) hc (by omega) (g_istore_1 hR dX8_readItem_9 rfl (g_aload_0 hR dX8_readItem_10 (g_dup hR dX8_readItem_11 rfl (g_getI hR _ dX8_readItem_12 flX8_91 (by decide) rfl rfl hp (g_iconst hR dX8_readItem_15 (g_iadd hR dX8_readItem_16 (g_putU hR dX8_readItem_17 fpX8_91 (by decide) rfl rfl (fun u1 hu1 => ?_))))))))))))
  have hF1 : FrM [5] [9] σ u1 := FrM.fd hu1 (by decide)
  have h1 := h.fr hF1
  have hp1 : u1 0 9 = iI (p + 1 : Nat) := hu1.1
  rcases (show c = 107 ∨ c = 108 ∨ c = 102 ∨ c = 101 ∨ (c ≠ 107 ∧ c ≠ 108 ∧ c ≠ 102 ∧ c ≠ 101) from by omega) with rfl | rfl | rfl | rfl | hco
  · skip
    have ho1 : (match rdNs t 5 (p + 1) [] with | none => none | some q => (takeIt 107 q.1 L).map (fun L2 => (q.2, L2))) = o := by rw [← ho]; unfold rdItem; rw [← hcp]; rfl
    rcases hq : rdNs t 5 (p + 1) [] with _ | ⟨l, p2⟩
    · skip
      refine g_iload_1 hR dX8_readItem_20 (g_bipush hR dX8_readItem_21 (by decide) (g_icmp_ne hR 30 dX8_readItem_23 (by decide) (by omega) (by omega) (fun zc23 => ?_) (fun zc23 => ?_)))
      · skip
        exact absurd zc23 (by omega)
      · skip
        refine g_iconst hR dX8_readItem_26 (g_goto hR 53 dX8_readItem_27 (by decide) (g_istore_2 hR dX8_readItem_53 rfl (g_iload_2 hR dX8_readItem_54 (g_if_eq hR 66 dX8_readItem_55 (by decide) (by omega) (fun zc55 => ?_) (fun zc55 => ?_)))))
        · skip
          exact absurd zc55 (by omega)
        · skip
          refine g_aload_0 hR dX8_readItem_58 (g_iload_2 hR dX8_readItem_59 (g_callV1Z hR dX8_readItem_60 mlX8_113 (by decide) rfl rfl (C8_readNumbers h1.1.1 h1.1.2 htb ht (n := 5) (by omega) hp1 (by omega) hq) (by decide) (Nat.le_of_ble_eq_true rfl) (fun u2 hu2 => (g_if_ne hR 68 dX8_readItem_63 (by decide) (by show -2147483648 ≤ (0 : Int) ∧ (0 : Int) < 2147483648; omega) (fun zc63 => ?_) (fun zc63 => ?_)))))
          · skip
            exact absurd rfl zc63
          · skip
            refine g_iconst hR dX8_readItem_66 ?_
            rw [hq] at ho1
            subst ho1
            exact g_zret hR dX8_readItem_67 rfl (Or.inl rfl) rfl ⟨(fun q hq => by cases hq), (hF1.mono (by decide) (by decide)).tr (hu2.2.mono (by decide) (by decide))⟩
    · skip
      refine g_iload_1 hR dX8_readItem_20 (g_bipush hR dX8_readItem_21 (by decide) (g_icmp_ne hR 30 dX8_readItem_23 (by decide) (by omega) (by omega) (fun zc23 => ?_) (fun zc23 => ?_)))
      · skip
        exact absurd zc23 (by omega)
      · skip
        refine g_iconst hR dX8_readItem_26 (g_goto hR 53 dX8_readItem_27 (by decide) (g_istore_2 hR dX8_readItem_53 rfl (g_iload_2 hR dX8_readItem_54 (g_if_eq hR 66 dX8_readItem_55 (by decide) (by omega) (fun zc55 => ?_) (fun zc55 => ?_)))))
        · skip
          exact absurd zc55 (by omega)
        · skip
          refine g_aload_0 hR dX8_readItem_58 (g_iload_2 hR dX8_readItem_59 (g_callV1Z hR dX8_readItem_60 mlX8_113 (by decide) rfl rfl (C8_readNumbers h1.1.1 h1.1.2 htb ht (n := 5) (by omega) hp1 (by omega) hq) (by decide) (Nat.le_of_ble_eq_true rfl) (fun u2 hu2 => ?_)))
          obtain ⟨hNl, hp2⟩ := hu2.1 _ rfl
          have h2 := h1.fr hu2.2
          have hlen : l.length = 5 := (rdNs_len t _ _ _ _ hq).trans (by simp)
          have h99 : ∀ i, l.getD i 0 ≤ 99 := rdNs_99 t _ _ _ _ (fun i => by rw [getD_out (by simp)]; omega) hq
          have hF2 : FrM [5, 6, 7] [9, 12, 13, 14, 16] σ u2 := (hF1.mono (by decide) (by decide)).tr (hu2.2.mono (by decide) (by decide))
          rw [hq] at ho1
          have b0 : l.getD 0 0 ≤ 99 := h99 0
          have hNl : NmM u2 l := hNl
          refine g_if_ne hR 68 dX8_readItem_63 (by decide) (by show -2147483648 ≤ (1 : Int) ∧ (1 : Int) < 2147483648; omega) (fun zc63 => ?_) (fun zc63 => ?_)
          · skip
            refine g_aload_0 hR dX8_readItem_68 (g_getR hR dX8_readItem_69 flX8_22 (by decide) rfl rfl (g_iconst hR dX8_readItem_72 (g_aldU hR _ dX8_readItem_73 (by decide) rfl (by decide) (by omega) (hNl 0 (by omega)) (by omega) (g_istore_3 hR dX8_readItem_74 rfl (g_iload_1 hR dX8_readItem_75 (g_bipush hR dX8_readItem_76 (by decide) (g_icmp_ne hR 86 dX8_readItem_78 (by decide) (by omega) (by omega) (fun zc78 => ?_) (fun zc78 => ?_))))))))
            · skip
              exact absurd zc78 (by omega)
            · skip
              refine g_aload_0 hR dX8_readItem_81 (g_callV0Z hR dX8_readItem_82 mlX8_116 (by decide) rfl rfl (C8_readKind h2 ok hNl hlen h99 rfl) (by decide) (Nat.le_of_ble_eq_true rfl) (fun u3 hu3 => ?_))
              subst ho1
              exact g_zret hR dX8_readItem_85 rfl (oB_01 _) (by show oB (takeK l L) = oB ((takeK l L).map _); cases takeK l L <;> rfl) ⟨(fun q hq3 => by
    have hq3 : (takeK l L).map (fun L2 => (p2, L2)) = some q := hq3
    cases hk : takeK l L with
    | none => rw [hk] at hq3; cases hq3
    | some L3 => rw [hk] at hq3; cases hq3; exact ⟨hu3.1 _ hk, (hu3.2.2 9 (by decide)).trans hp2⟩), hF2.tr (hu3.2.mono (by decide) (by decide))⟩
          · skip
            exact absurd zc63 (by show (1 : Int) ≠ 0; omega)
  · skip
    have ho1 : (match rdNs t 1 (p + 1) [] with | none => none | some q => (takeIt 108 q.1 L).map (fun L2 => (q.2, L2))) = o := by rw [← ho]; unfold rdItem; rw [← hcp]; rfl
    rcases hq : rdNs t 1 (p + 1) [] with _ | ⟨l, p2⟩
    · skip
      refine g_iload_1 hR dX8_readItem_20 (g_bipush hR dX8_readItem_21 (by decide) (g_icmp_ne hR 30 dX8_readItem_23 (by decide) (by omega) (by omega) (fun zc23 => ?_) (fun zc23 => ?_)))
      · skip
        refine g_iload_1 hR dX8_readItem_30 (g_bipush hR dX8_readItem_31 (by decide) (g_icmp_eq hR 48 dX8_readItem_33 (by decide) (by omega) (by omega) (fun zc33 => ?_) (fun zc33 => ?_)))
        · skip
          refine g_iconst hR dX8_readItem_48 (g_goto hR 53 dX8_readItem_49 (by decide) (g_istore_2 hR dX8_readItem_53 rfl (g_iload_2 hR dX8_readItem_54 (g_if_eq hR 66 dX8_readItem_55 (by decide) (by omega) (fun zc55 => ?_) (fun zc55 => ?_)))))
          · skip
            exact absurd zc55 (by omega)
          · skip
            refine g_aload_0 hR dX8_readItem_58 (g_iload_2 hR dX8_readItem_59 (g_callV1Z hR dX8_readItem_60 mlX8_113 (by decide) rfl rfl (C8_readNumbers h1.1.1 h1.1.2 htb ht (n := 1) (by omega) hp1 (by omega) hq) (by decide) (Nat.le_of_ble_eq_true rfl) (fun u2 hu2 => (g_if_ne hR 68 dX8_readItem_63 (by decide) (by show -2147483648 ≤ (0 : Int) ∧ (0 : Int) < 2147483648; omega) (fun zc63 => ?_) (fun zc63 => ?_)))))
            · skip
              exact absurd rfl zc63
            · skip
              refine g_iconst hR dX8_readItem_66 ?_
              rw [hq] at ho1
              subst ho1
              exact g_zret hR dX8_readItem_67 rfl (Or.inl rfl) rfl ⟨(fun q hq => by cases hq), (hF1.mono (by decide) (by decide)).tr (hu2.2.mono (by decide) (by decide))⟩
        · skip
          exact absurd zc33 (by omega)
      · skip
        exact absurd zc23 (by omega)
    · skip
      refine g_iload_1 hR dX8_readItem_20 (g_bipush hR dX8_readItem_21 (by decide) (g_icmp_ne hR 30 dX8_readItem_23 (by decide) (by omega) (by omega) (fun zc23 => ?_) (fun zc23 => ?_)))
      · skip
        refine g_iload_1 hR dX8_readItem_30 (g_bipush hR dX8_readItem_31 (by decide) (g_icmp_eq hR 48 dX8_readItem_33 (by decide) (by omega) (by omega) (fun zc33 => ?_) (fun zc33 => ?_)))
        · skip
          refine g_iconst hR dX8_readItem_48 (g_goto hR 53 dX8_readItem_49 (by decide) (g_istore_2 hR dX8_readItem_53 rfl (g_iload_2 hR dX8_readItem_54 (g_if_eq hR 66 dX8_readItem_55 (by decide) (by omega) (fun zc55 => ?_) (fun zc55 => ?_)))))
          · skip
            exact absurd zc55 (by omega)
          · skip
            refine g_aload_0 hR dX8_readItem_58 (g_iload_2 hR dX8_readItem_59 (g_callV1Z hR dX8_readItem_60 mlX8_113 (by decide) rfl rfl (C8_readNumbers h1.1.1 h1.1.2 htb ht (n := 1) (by omega) hp1 (by omega) hq) (by decide) (Nat.le_of_ble_eq_true rfl) (fun u2 hu2 => ?_)))
            obtain ⟨hNl, hp2⟩ := hu2.1 _ rfl
            have h2 := h1.fr hu2.2
            have hlen : l.length = 1 := (rdNs_len t _ _ _ _ hq).trans (by simp)
            have h99 : ∀ i, l.getD i 0 ≤ 99 := rdNs_99 t _ _ _ _ (fun i => by rw [getD_out (by simp)]; omega) hq
            have hF2 : FrM [5, 6, 7] [9, 12, 13, 14, 16] σ u2 := (hF1.mono (by decide) (by decide)).tr (hu2.2.mono (by decide) (by decide))
            rw [hq] at ho1
            have b0 : l.getD 0 0 ≤ 99 := h99 0
            have hNl : NmM u2 l := hNl
            refine g_if_ne hR 68 dX8_readItem_63 (by decide) (by show -2147483648 ≤ (1 : Int) ∧ (1 : Int) < 2147483648; omega) (fun zc63 => ?_) (fun zc63 => ?_)
            · skip
              refine g_aload_0 hR dX8_readItem_68 (g_getR hR dX8_readItem_69 flX8_22 (by decide) rfl rfl (g_iconst hR dX8_readItem_72 (g_aldU hR _ dX8_readItem_73 (by decide) rfl (by decide) (by omega) (hNl 0 (by omega)) (by omega) (g_istore_3 hR dX8_readItem_74 rfl (g_iload_1 hR dX8_readItem_75 (g_bipush hR dX8_readItem_76 (by decide) (g_icmp_ne hR 86 dX8_readItem_78 (by decide) (by omega) (by omega) (fun zc78 => ?_) (fun zc78 => ?_))))))))
              · skip
                refine g_iload_1 hR dX8_readItem_86 (g_bipush hR dX8_readItem_87 (by decide) (g_icmp_ne hR 108 dX8_readItem_89 (by decide) (by omega) (by omega) (fun zc89 => ?_) (fun zc89 => ?_)))
                · skip
                  exact absurd zc89 (by omega)
                · skip
                  refine g_aload_0 hR dX8_readItem_92 (g_iload_3 hR dX8_readItem_93 (g_putU hR dX8_readItem_94 fpX8_120 (by decide) rfl rfl (fun u3 hu3 => (g_iload_3 hR dX8_readItem_97 (g_iconst hR dX8_readItem_98 (g_icmp_ge hR 106 dX8_readItem_99 (by decide) (by omega) (by omega) (fun zc99 => ?_) (fun zc99 => ?_)))))))
                  · skip
                    refine g_iconst hR dX8_readItem_106 ?_
                    have e1 : o = none := by rw [← ho1]; show (if l.getD 0 0 ≤ 3 then some (Lm L, Lr L, Lp L, Lw L, Lc L, Lrow L, l.getD 0 0, Lfirst L) else none).map _ = none; rw [if_neg (by omega)]; rfl
                    subst e1
                    exact g_zret hR dX8_readItem_107 rfl (Or.inl rfl) rfl ⟨(fun q hq => by cases hq), hF2.tr (FrM.fd hu3 (by decide))⟩
                  · skip
                    refine g_iconst hR dX8_readItem_102 (g_goto hR 107 dX8_readItem_103 (by decide) ?_)
                    have e1 : o = some (p2, (Lm L, Lr L, Lp L, Lw L, Lc L, Lrow L, l.getD 0 0, Lfirst L)) := by rw [← ho1]; show (if l.getD 0 0 ≤ 3 then some (Lm L, Lr L, Lp L, Lw L, Lc L, Lrow L, l.getD 0 0, Lfirst L) else none).map _ = _; rw [if_pos (by omega)]; rfl
                    subst e1
                    exact g_zret hR dX8_readItem_107 rfl (Or.inr rfl) rfl ⟨(fun q hq => by cases hq; exact ⟨⟨⟨h2.1.1.fr (hu3.2.2 4 (by omega)), (hu3.2.1 8 (by omega)).trans h2.1.2⟩, ⟨h2.2.1.1.fr (hu3.2.2 6 (by omega)), (hu3.2.1 12 (by omega)).trans h2.2.1.2⟩, ⟨hu3.1, (hu3.2.1 14 (by omega)).trans h2.2.2.1.2⟩, ⟨h2.2.2.2.1.fr (hu3.2.2 7 (by omega)), (hu3.2.1 16 (by omega)).trans h2.2.2.2.2⟩⟩, (hu3.2.1 9 (by omega)).trans hp2⟩), hF2.tr (FrM.fd hu3 (by decide))⟩
              · skip
                exact absurd zc78 (by omega)
            · skip
              exact absurd zc63 (by show (1 : Int) ≠ 0; omega)
        · skip
          exact absurd zc33 (by omega)
      · skip
        exact absurd zc23 (by omega)
  · skip
    have ho1 : (match rdNs t 1 (p + 1) [] with | none => none | some q => (takeIt 102 q.1 L).map (fun L2 => (q.2, L2))) = o := by rw [← ho]; unfold rdItem; rw [← hcp]; rfl
    rcases hq : rdNs t 1 (p + 1) [] with _ | ⟨l, p2⟩
    · skip
      refine g_iload_1 hR dX8_readItem_20 (g_bipush hR dX8_readItem_21 (by decide) (g_icmp_ne hR 30 dX8_readItem_23 (by decide) (by omega) (by omega) (fun zc23 => ?_) (fun zc23 => ?_)))
      · skip
        refine g_iload_1 hR dX8_readItem_30 (g_bipush hR dX8_readItem_31 (by decide) (g_icmp_eq hR 48 dX8_readItem_33 (by decide) (by omega) (by omega) (fun zc33 => ?_) (fun zc33 => ?_)))
        · skip
          exact absurd zc33 (by omega)
        · skip
          refine g_iload_1 hR dX8_readItem_36 (g_bipush hR dX8_readItem_37 (by decide) (g_icmp_eq hR 48 dX8_readItem_39 (by decide) (by omega) (by omega) (fun zc39 => ?_) (fun zc39 => ?_)))
          · skip
            refine g_iconst hR dX8_readItem_48 (g_goto hR 53 dX8_readItem_49 (by decide) (g_istore_2 hR dX8_readItem_53 rfl (g_iload_2 hR dX8_readItem_54 (g_if_eq hR 66 dX8_readItem_55 (by decide) (by omega) (fun zc55 => ?_) (fun zc55 => ?_)))))
            · skip
              exact absurd zc55 (by omega)
            · skip
              refine g_aload_0 hR dX8_readItem_58 (g_iload_2 hR dX8_readItem_59 (g_callV1Z hR dX8_readItem_60 mlX8_113 (by decide) rfl rfl (C8_readNumbers h1.1.1 h1.1.2 htb ht (n := 1) (by omega) hp1 (by omega) hq) (by decide) (Nat.le_of_ble_eq_true rfl) (fun u2 hu2 => (g_if_ne hR 68 dX8_readItem_63 (by decide) (by show -2147483648 ≤ (0 : Int) ∧ (0 : Int) < 2147483648; omega) (fun zc63 => ?_) (fun zc63 => ?_)))))
              · skip
                exact absurd rfl zc63
              · skip
                refine g_iconst hR dX8_readItem_66 ?_
                rw [hq] at ho1
                subst ho1
                exact g_zret hR dX8_readItem_67 rfl (Or.inl rfl) rfl ⟨(fun q hq => by cases hq), (hF1.mono (by decide) (by decide)).tr (hu2.2.mono (by decide) (by decide))⟩
          · skip
            exact absurd zc39 (by omega)
      · skip
        exact absurd zc23 (by omega)
    · skip
      refine g_iload_1 hR dX8_readItem_20 (g_bipush hR dX8_readItem_21 (by decide) (g_icmp_ne hR 30 dX8_readItem_23 (by decide) (by omega) (by omega) (fun zc23 => ?_) (fun zc23 => ?_)))
      · skip
        refine g_iload_1 hR dX8_readItem_30 (g_bipush hR dX8_readItem_31 (by decide) (g_icmp_eq hR 48 dX8_readItem_33 (by decide) (by omega) (by omega) (fun zc33 => ?_) (fun zc33 => ?_)))
        · skip
          exact absurd zc33 (by omega)
        · skip
          refine g_iload_1 hR dX8_readItem_36 (g_bipush hR dX8_readItem_37 (by decide) (g_icmp_eq hR 48 dX8_readItem_39 (by decide) (by omega) (by omega) (fun zc39 => ?_) (fun zc39 => ?_)))
          · skip
            refine g_iconst hR dX8_readItem_48 (g_goto hR 53 dX8_readItem_49 (by decide) (g_istore_2 hR dX8_readItem_53 rfl (g_iload_2 hR dX8_readItem_54 (g_if_eq hR 66 dX8_readItem_55 (by decide) (by omega) (fun zc55 => ?_) (fun zc55 => ?_)))))
            · skip
              exact absurd zc55 (by omega)
            · skip
              refine g_aload_0 hR dX8_readItem_58 (g_iload_2 hR dX8_readItem_59 (g_callV1Z hR dX8_readItem_60 mlX8_113 (by decide) rfl rfl (C8_readNumbers h1.1.1 h1.1.2 htb ht (n := 1) (by omega) hp1 (by omega) hq) (by decide) (Nat.le_of_ble_eq_true rfl) (fun u2 hu2 => ?_)))
              obtain ⟨hNl, hp2⟩ := hu2.1 _ rfl
              have h2 := h1.fr hu2.2
              have hlen : l.length = 1 := (rdNs_len t _ _ _ _ hq).trans (by simp)
              have h99 : ∀ i, l.getD i 0 ≤ 99 := rdNs_99 t _ _ _ _ (fun i => by rw [getD_out (by simp)]; omega) hq
              have hF2 : FrM [5, 6, 7] [9, 12, 13, 14, 16] σ u2 := (hF1.mono (by decide) (by decide)).tr (hu2.2.mono (by decide) (by decide))
              rw [hq] at ho1
              have b0 : l.getD 0 0 ≤ 99 := h99 0
              have hNl : NmM u2 l := hNl
              refine g_if_ne hR 68 dX8_readItem_63 (by decide) (by show -2147483648 ≤ (1 : Int) ∧ (1 : Int) < 2147483648; omega) (fun zc63 => ?_) (fun zc63 => ?_)
              · skip
                refine g_aload_0 hR dX8_readItem_68 (g_getR hR dX8_readItem_69 flX8_22 (by decide) rfl rfl (g_iconst hR dX8_readItem_72 (g_aldU hR _ dX8_readItem_73 (by decide) rfl (by decide) (by omega) (hNl 0 (by omega)) (by omega) (g_istore_3 hR dX8_readItem_74 rfl (g_iload_1 hR dX8_readItem_75 (g_bipush hR dX8_readItem_76 (by decide) (g_icmp_ne hR 86 dX8_readItem_78 (by decide) (by omega) (by omega) (fun zc78 => ?_) (fun zc78 => ?_))))))))
                · skip
                  refine g_iload_1 hR dX8_readItem_86 (g_bipush hR dX8_readItem_87 (by decide) (g_icmp_ne hR 108 dX8_readItem_89 (by decide) (by omega) (by omega) (fun zc89 => ?_) (fun zc89 => ?_)))
                  · skip
                    refine g_iload_1 hR dX8_readItem_108 (g_bipush hR dX8_readItem_109 (by decide) (g_icmp_ne hR 131 dX8_readItem_111 (by decide) (by omega) (by omega) (fun zc111 => ?_) (fun zc111 => ?_)))
                    · skip
                      exact absurd zc111 (by omega)
                    · skip
                      refine g_aload_0 hR dX8_readItem_114 (g_iload_3 hR dX8_readItem_115 (g_putU hR dX8_readItem_116 fpX8_123 (by decide) rfl rfl (fun u3 hu3 => (g_iload_3 hR dX8_readItem_119 (g_bipush hR dX8_readItem_120 (by decide) (g_icmp_ge hR 129 dX8_readItem_122 (by decide) (by omega) (by omega) (fun zc122 => ?_) (fun zc122 => ?_)))))))
                      · skip
                        refine g_iconst hR dX8_readItem_129 ?_
                        have e1 : o = none := by rw [← ho1]; show (if l.getD 0 0 ≤ 5 then some (Lm L, Lr L, Lp L, Lw L, Lc L, Lrow L, Lsort L, l.getD 0 0) else none).map _ = none; rw [if_neg (by omega)]; rfl
                        subst e1
                        exact g_zret hR dX8_readItem_130 rfl (Or.inl rfl) rfl ⟨(fun q hq => by cases hq), hF2.tr (FrM.fd hu3 (by decide))⟩
                      · skip
                        refine g_iconst hR dX8_readItem_125 (g_goto hR 130 dX8_readItem_126 (by decide) ?_)
                        have e1 : o = some (p2, (Lm L, Lr L, Lp L, Lw L, Lc L, Lrow L, Lsort L, l.getD 0 0)) := by rw [← ho1]; show (if l.getD 0 0 ≤ 5 then some (Lm L, Lr L, Lp L, Lw L, Lc L, Lrow L, Lsort L, l.getD 0 0) else none).map _ = _; rw [if_pos (by omega)]; rfl
                        subst e1
                        exact g_zret hR dX8_readItem_130 rfl (Or.inr rfl) rfl ⟨(fun q hq => by cases hq; exact ⟨⟨⟨h2.1.1.fr (hu3.2.2 4 (by omega)), (hu3.2.1 8 (by omega)).trans h2.1.2⟩, ⟨h2.2.1.1.fr (hu3.2.2 6 (by omega)), (hu3.2.1 12 (by omega)).trans h2.2.1.2⟩, ⟨(hu3.2.1 13 (by omega)).trans h2.2.2.1.1, hu3.1⟩, ⟨h2.2.2.2.1.fr (hu3.2.2 7 (by omega)), (hu3.2.1 16 (by omega)).trans h2.2.2.2.2⟩⟩, (hu3.2.1 9 (by omega)).trans hp2⟩), hF2.tr (FrM.fd hu3 (by decide))⟩
                  · skip
                    exact absurd zc89 (by omega)
                · skip
                  exact absurd zc78 (by omega)
              · skip
                exact absurd zc63 (by show (1 : Int) ≠ 0; omega)
          · skip
            exact absurd zc39 (by omega)
      · skip
        exact absurd zc23 (by omega)
  · skip
    have ho1 : (match rdNs t 1 (p + 1) [] with | none => none | some q => (takeIt 101 q.1 L).map (fun L2 => (q.2, L2))) = o := by rw [← ho]; unfold rdItem; rw [← hcp]; rfl
    rcases hq : rdNs t 1 (p + 1) [] with _ | ⟨l, p2⟩
    · skip
      refine g_iload_1 hR dX8_readItem_20 (g_bipush hR dX8_readItem_21 (by decide) (g_icmp_ne hR 30 dX8_readItem_23 (by decide) (by omega) (by omega) (fun zc23 => ?_) (fun zc23 => ?_)))
      · skip
        refine g_iload_1 hR dX8_readItem_30 (g_bipush hR dX8_readItem_31 (by decide) (g_icmp_eq hR 48 dX8_readItem_33 (by decide) (by omega) (by omega) (fun zc33 => ?_) (fun zc33 => ?_)))
        · skip
          exact absurd zc33 (by omega)
        · skip
          refine g_iload_1 hR dX8_readItem_36 (g_bipush hR dX8_readItem_37 (by decide) (g_icmp_eq hR 48 dX8_readItem_39 (by decide) (by omega) (by omega) (fun zc39 => ?_) (fun zc39 => ?_)))
          · skip
            exact absurd zc39 (by omega)
          · skip
            refine g_iload_1 hR dX8_readItem_42 (g_bipush hR dX8_readItem_43 (by decide) (g_icmp_ne hR 52 dX8_readItem_45 (by decide) (by omega) (by omega) (fun zc45 => ?_) (fun zc45 => ?_)))
            · skip
              exact absurd zc45 (by omega)
            · skip
              refine g_iconst hR dX8_readItem_48 (g_goto hR 53 dX8_readItem_49 (by decide) (g_istore_2 hR dX8_readItem_53 rfl (g_iload_2 hR dX8_readItem_54 (g_if_eq hR 66 dX8_readItem_55 (by decide) (by omega) (fun zc55 => ?_) (fun zc55 => ?_)))))
              · skip
                exact absurd zc55 (by omega)
              · skip
                refine g_aload_0 hR dX8_readItem_58 (g_iload_2 hR dX8_readItem_59 (g_callV1Z hR dX8_readItem_60 mlX8_113 (by decide) rfl rfl (C8_readNumbers h1.1.1 h1.1.2 htb ht (n := 1) (by omega) hp1 (by omega) hq) (by decide) (Nat.le_of_ble_eq_true rfl) (fun u2 hu2 => (g_if_ne hR 68 dX8_readItem_63 (by decide) (by show -2147483648 ≤ (0 : Int) ∧ (0 : Int) < 2147483648; omega) (fun zc63 => ?_) (fun zc63 => ?_)))))
                · skip
                  exact absurd rfl zc63
                · skip
                  refine g_iconst hR dX8_readItem_66 ?_
                  rw [hq] at ho1
                  subst ho1
                  exact g_zret hR dX8_readItem_67 rfl (Or.inl rfl) rfl ⟨(fun q hq => by cases hq), (hF1.mono (by decide) (by decide)).tr (hu2.2.mono (by decide) (by decide))⟩
      · skip
        exact absurd zc23 (by omega)
    · skip
      refine g_iload_1 hR dX8_readItem_20 (g_bipush hR dX8_readItem_21 (by decide) (g_icmp_ne hR 30 dX8_readItem_23 (by decide) (by omega) (by omega) (fun zc23 => ?_) (fun zc23 => ?_)))
      · skip
        refine g_iload_1 hR dX8_readItem_30 (g_bipush hR dX8_readItem_31 (by decide) (g_icmp_eq hR 48 dX8_readItem_33 (by decide) (by omega) (by omega) (fun zc33 => ?_) (fun zc33 => ?_)))
        · skip
          exact absurd zc33 (by omega)
        · skip
          refine g_iload_1 hR dX8_readItem_36 (g_bipush hR dX8_readItem_37 (by decide) (g_icmp_eq hR 48 dX8_readItem_39 (by decide) (by omega) (by omega) (fun zc39 => ?_) (fun zc39 => ?_)))
          · skip
            exact absurd zc39 (by omega)
          · skip
            refine g_iload_1 hR dX8_readItem_42 (g_bipush hR dX8_readItem_43 (by decide) (g_icmp_ne hR 52 dX8_readItem_45 (by decide) (by omega) (by omega) (fun zc45 => ?_) (fun zc45 => ?_)))
            · skip
              exact absurd zc45 (by omega)
            · skip
              refine g_iconst hR dX8_readItem_48 (g_goto hR 53 dX8_readItem_49 (by decide) (g_istore_2 hR dX8_readItem_53 rfl (g_iload_2 hR dX8_readItem_54 (g_if_eq hR 66 dX8_readItem_55 (by decide) (by omega) (fun zc55 => ?_) (fun zc55 => ?_)))))
              · skip
                exact absurd zc55 (by omega)
              · skip
                refine g_aload_0 hR dX8_readItem_58 (g_iload_2 hR dX8_readItem_59 (g_callV1Z hR dX8_readItem_60 mlX8_113 (by decide) rfl rfl (C8_readNumbers h1.1.1 h1.1.2 htb ht (n := 1) (by omega) hp1 (by omega) hq) (by decide) (Nat.le_of_ble_eq_true rfl) (fun u2 hu2 => ?_)))
                obtain ⟨hNl, hp2⟩ := hu2.1 _ rfl
                have h2 := h1.fr hu2.2
                have hlen : l.length = 1 := (rdNs_len t _ _ _ _ hq).trans (by simp)
                have h99 : ∀ i, l.getD i 0 ≤ 99 := rdNs_99 t _ _ _ _ (fun i => by rw [getD_out (by simp)]; omega) hq
                have hF2 : FrM [5, 6, 7] [9, 12, 13, 14, 16] σ u2 := (hF1.mono (by decide) (by decide)).tr (hu2.2.mono (by decide) (by decide))
                rw [hq] at ho1
                have b0 : l.getD 0 0 ≤ 99 := h99 0
                have hNl : NmM u2 l := hNl
                refine g_if_ne hR 68 dX8_readItem_63 (by decide) (by show -2147483648 ≤ (1 : Int) ∧ (1 : Int) < 2147483648; omega) (fun zc63 => ?_) (fun zc63 => ?_)
                · skip
                  refine g_aload_0 hR dX8_readItem_68 (g_getR hR dX8_readItem_69 flX8_22 (by decide) rfl rfl (g_iconst hR dX8_readItem_72 (g_aldU hR _ dX8_readItem_73 (by decide) rfl (by decide) (by omega) (hNl 0 (by omega)) (by omega) (g_istore_3 hR dX8_readItem_74 rfl (g_iload_1 hR dX8_readItem_75 (g_bipush hR dX8_readItem_76 (by decide) (g_icmp_ne hR 86 dX8_readItem_78 (by decide) (by omega) (by omega) (fun zc78 => ?_) (fun zc78 => ?_))))))))
                  · skip
                    refine g_iload_1 hR dX8_readItem_86 (g_bipush hR dX8_readItem_87 (by decide) (g_icmp_ne hR 108 dX8_readItem_89 (by decide) (by omega) (by omega) (fun zc89 => ?_) (fun zc89 => ?_)))
                    · skip
                      refine g_iload_1 hR dX8_readItem_108 (g_bipush hR dX8_readItem_109 (by decide) (g_icmp_ne hR 131 dX8_readItem_111 (by decide) (by omega) (by omega) (fun zc111 => ?_) (fun zc111 => ?_)))
                      · skip
                        refine g_iload_3 hR dX8_readItem_131 (g_aload_0 hR dX8_readItem_132 (g_getI hR _ dX8_readItem_133 flX8_98 (by decide) rfl rfl h2.2.1.2 (g_icmp_ge hR 148 dX8_readItem_136 (by decide) (by omega) (by omega) (fun zc136 => ?_) (fun zc136 => ?_))))
                        · skip
                          refine g_iconst hR dX8_readItem_148 ?_
                          have e1 : o = none := by rw [← ho1]; show (takeE (l.getD 0 0) L).map _ = none; unfold takeE; rw [if_neg (by omega)]; rfl
                          subst e1
                          exact g_zret hR dX8_readItem_149 rfl (Or.inl rfl) rfl ⟨(fun q hq => by cases hq), hF2⟩
                        · skip
                          refine g_aload_0 hR dX8_readItem_139 (g_getI hR _ dX8_readItem_140 flX8_126 (by decide) rfl rfl h2.2.2.2.2 (g_bipush hR dX8_readItem_143 (by decide) (g_icmp_ne hR 150 dX8_readItem_145 (by decide) (by omega) (by omega) (fun zc145 => ?_) (fun zc145 => ?_))))
                          · skip
                            refine g_aload_0 hR dX8_readItem_150 (g_getR hR dX8_readItem_151 flX8_28 (by decide) rfl rfl (g_aload_0 hR dX8_readItem_154 (g_getI hR _ dX8_readItem_155 flX8_126 (by decide) rfl rfl h2.2.2.2.2 (g_iload_3 hR dX8_readItem_158 (g_astU hR ((Lrow L).length) dX8_readItem_159 (by decide) rfl (by decide) (by omega) (by omega) (fun u3 hu3 => (g_aload_0 hR dX8_readItem_160 (g_dup hR dX8_readItem_161 rfl (g_getI hR _ dX8_readItem_162 flX8_126 (by decide) rfl rfl ((congrFun (hu3.2.2 0 (by omega)) 16).trans h2.2.2.2.2) (g_iconst hR dX8_readItem_165 (g_iadd hR dX8_readItem_166 (g_putU hR dX8_readItem_167 fpX8_126 (by decide) rfl rfl (fun u4 hu4 => (g_iconst hR dX8_readItem_170 ?_))))))))))))))
                            have e1 : o = some (p2, (Lm L, Lr L, Lp L, Lw L, Lc L, Lrow L ++ [l.getD 0 0], Lsort L, Lfirst L)) := by rw [← ho1]; show (takeE (l.getD 0 0) L).map _ = _; unfold takeE; rw [if_pos (by omega)]; rfl
                            subst e1
                            have hF4 : FrM [7] [16] u2 u4 := (FrM.ar hu3 (by decide) (by decide)).tr (FrM.fd hu4 (by decide))
                            exact g_zret hR dX8_readItem_171 rfl (Or.inr rfl) rfl ⟨(fun q hq => by cases hq; exact ⟨⟨⟨h2.1.1.fr (hF4.1 4 (by decide) (by decide)), (hF4.2 8 (by decide)).trans h2.1.2⟩, ⟨h2.2.1.1.fr (hF4.1 6 (by decide) (by decide)), (hF4.2 12 (by decide)).trans h2.2.1.2⟩, ⟨(hF4.2 13 (by decide)).trans h2.2.2.1.1, (hF4.2 14 (by decide)).trans h2.2.2.1.2⟩, ⟨(h2.2.2.2.1.add hu3).fr (hu4.2.2 7 (by omega)), by rw [hu4.1]; exact congrArg iI (show ((Lrow L).length : Int) + 1 = (((Lrow L ++ [l.getD 0 0]).length : Nat) : Int) from by rw [List.length_append]; rfl)⟩⟩, (hF4.2 9 (by decide)).trans hp2⟩), hF2.tr (hF4.mono (by decide) (by decide))⟩
                          · skip
                            refine g_iconst hR dX8_readItem_148 ?_
                            have e1 : o = none := by rw [← ho1]; show (takeE (l.getD 0 0) L).map _ = none; unfold takeE; rw [if_neg (by omega)]; rfl
                            subst e1
                            exact g_zret hR dX8_readItem_149 rfl (Or.inl rfl) rfl ⟨(fun q hq => by cases hq), hF2⟩
                      · skip
                        exact absurd zc111 (by omega)
                    · skip
                      exact absurd zc89 (by omega)
                  · skip
                    exact absurd zc78 (by omega)
                · skip
                  exact absurd zc63 (by show (1 : Int) ≠ 0; omega)
      · skip
        exact absurd zc23 (by omega)
  · skip
    refine g_iload_1 hR dX8_readItem_20 (g_bipush hR dX8_readItem_21 (by decide) (g_icmp_ne hR 30 dX8_readItem_23 (by decide) (by omega) (by omega) (fun zc23 => ?_) (fun zc23 => ?_)))
    · skip
      refine g_iload_1 hR dX8_readItem_30 (g_bipush hR dX8_readItem_31 (by decide) (g_icmp_eq hR 48 dX8_readItem_33 (by decide) (by omega) (by omega) (fun zc33 => ?_) (fun zc33 => ?_)))
      · skip
        exact absurd zc33 (by omega)
      · skip
        refine g_iload_1 hR dX8_readItem_36 (g_bipush hR dX8_readItem_37 (by decide) (g_icmp_eq hR 48 dX8_readItem_39 (by decide) (by omega) (by omega) (fun zc39 => ?_) (fun zc39 => ?_)))
        · skip
          exact absurd zc39 (by omega)
        · skip
          refine g_iload_1 hR dX8_readItem_42 (g_bipush hR dX8_readItem_43 (by decide) (g_icmp_ne hR 52 dX8_readItem_45 (by decide) (by omega) (by omega) (fun zc45 => ?_) (fun zc45 => ?_)))
          · skip
            refine g_iconst hR dX8_readItem_52 (g_istore_2 hR dX8_readItem_53 rfl (g_iload_2 hR dX8_readItem_54 (g_if_eq hR 66 dX8_readItem_55 (by decide) (by omega) (fun zc55 => ?_) (fun zc55 => ?_))))
            · skip
              refine g_iconst hR dX8_readItem_66 ?_
              have e0 : nbOf c = 0 := by unfold nbOf; rw [if_neg (by omega), if_neg (by omega)]
              have e1 : o = none := by
                rw [← ho]; unfold rdItem; rw [← hcp, e0]; show (takeIt c [] L).map _ = none
                unfold takeIt; rw [if_neg (by omega), if_neg (by omega), if_neg (by omega), if_neg (by omega)]; rfl
              subst e1
              exact g_zret hR dX8_readItem_67 rfl (Or.inl rfl) rfl ⟨(fun q hq => by cases hq), hF1.mono (by decide) (by decide)⟩
            · skip
              exact absurd zc55 (by omega)
          · skip
            exact absurd zc45 (by omega)
    · skip
      exact absurd zc23 (by omega)
