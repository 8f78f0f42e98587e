
theorem lastD_pos {f : Nat} {r : List Nat} (h : 0 < r.length) : lastD f r = r.getD 0 0 % 6 := by
  cases r with
  | nil => simp at h
  | cons w t => rfl
theorem lastD_nil {f : Nat} {r : List Nat} (h : r.length = 0) : lastD f r = f := by rw [List.length_eq_zero_iff.mp h]; rfl
theorem befD_pos {f : Nat} {r : List Nat} (h : 1 < r.length) : befD f r = r.getD 1 0 % 6 := by
  match r, h with
  | [], h => simp at h
  | [_], h => simp at h
  | _ :: _ :: _, _ => rfl
theorem befD_nil {f : Nat} {r : List Nat} (h : r.length ≤ 1) : befD f r = f := by
  match r, h with
  | [], _ => rfl
  | [_], _ => rfl
  | _ :: _ :: _, h => simp at h
theorem bst_le (off : Nat → Nat) (f b : Nat) : ∀ l, (bst off f b l).2 ≤ b
  | [] => Nat.le_refl _
  | w :: t => by
    have h := bst_le off f b t
    simp only [bst]
    split
    · next q => exact Nat.le_trans q h
    · exact h
theorem tk_step {r : List Nat} {n i : Nat} (hn : n = min 40 r.length) (hi : i < n) : (r.take 40).drop (n - (i + 1)) = r.getD (n - 1 - i) 0 :: (r.take 40).drop (n - i) := by
  have h1 := drop_cons (l := r.take 40) (j := n - (i + 1)) (by rw [List.length_take]; omega)
  have h2 : (r.take 40).getD (n - (i + 1)) 0 = r.getD (n - 1 - i) 0 := by
    rw [show n - (i + 1) = n - 1 - i from by omega]
    simp only [List.getD]; rw [List.getElem?_take_of_lt (by omega)]
  rw [h1, h2, show n - (i + 1) + 1 = n - i from by omega]
theorem WOK.b36 {L : Les} (ok : LesOK L) {r : List Nat} (h : WOK L r) (i : Nat) : r.getD i 0 < 36 := by
  have hk := ok.k
  by_cases q : i < r.length
  · have := h _ (getD_mem q); omega
  · rw [getD_out (by omega)]; omega
theorem WOK.kd {L : Les} {r : List Nat} (h : WOK L r) {i : Nat} (hi : i < r.length) : r.getD i 0 / 6 < (Lm L).length := h _ (getD_mem hi)

theorem C8_doesBy {E : f_E} {σ : f_Mem} {L : Les} {M : Mms} (hS : StM σ 3 0 M) (hL : LsM σ 1 L) (ok : LesOK L) (hw : WOK L M.1) {s f k : Nat} (hs : s < 4) (hf : f < 6) (hk : k < (Lm L).length) : FZ E sM mX8_doesBy 2 [.ref (f_ad E 0), .int (iI s), .int (iI f), .int (iI k)] σ (does L s f k M.1 : Nat) (fun u => u = σ) := by
  have hK6 := ok.k
  have hmany := hS.many
  have hwd : ∀ i, i < min 40 M.1.length → σ 3 (0 + i) = iI (M.1.getD (min 40 M.1.length - 1 - i) 0 : Nat) := fun i hi => hS.word hi
  obtain ⟨n, hn⟩ : ∃ n, n = min 40 M.1.length := ⟨_, rfl⟩
  rw [← hn] at hmany hwd
  have hb0 := hw.b36 ok (n - 1 - (n - 1))
  have hb1 := hw.b36 ok (n - 1 - (n - 2))
  refine FZ.intro rfl (Nat.le_of_ble_eq_true rfl) (L0 := [some (.ref (f_ad E 0)), some (.int (iI s)), some (.int (iI f)), some (.int (iI k)), none, none, none, none, none]) rfl (fun G hR => ?_)
  refine g_aload_0 hR dX8_doesBy_0 (g_getR hR dX8_doesBy_1 flX8_16 (by decide) rfl rfl (g_bipush hR dX8_doesBy_4 (by decide) (g_aldU hR _ dX8_doesBy_6 (by decide) rfl (by decide) (by omega) hmany (by omega) (g_istore_4 hR dX8_doesBy_7 rfl (g_iload_1 hR dX8_doesBy_9 (g_if_ne hR 35 dX8_doesBy_10 (by decide) (by omega) (fun zc10 => ?_) (fun zc10 => ?_)))))))
  · skip
    refine g_iload_1 hR dX8_doesBy_35 (g_iconst hR dX8_doesBy_36 (g_icmp_ne hR 63 dX8_doesBy_37 (by decide) (by omega) (by omega) (fun zc37 => ?_) (fun zc37 => ?_)))
    · skip
      refine g_iload_2 hR dX8_doesBy_63 (g_istore_5 hR dX8_doesBy_64 rfl (g_iload_1 hR dX8_doesBy_66 (g_iconst hR dX8_doesBy_67 (g_icmp_ne hR 76 dX8_doesBy_68 (by decide) (by omega) (by omega) (fun zc68 => ?_) (fun zc68 => ?_)))))
      · skip
        obtain rfl : s = 3 := by omega
        refine g_iconst hR dX8_doesBy_76 (g_istore_6 hR dX8_doesBy_77 rfl (g_iconst hR dX8_doesBy_79 (g_istore_7 hR dX8_doesBy_80 rfl ?_)))
        have loop : ∀ (mm : Nat) (i : Nat), mm = n - i → i ≤ n → ∀ x8 : Option Value, G 82 [some (.ref (f_ad E 0)), some (.int (iI (3 : Nat))), some (.int (iI f)), some (.int (iI k)), some (.int (iI n)), some (.int (iI (bst (fun j => if j = k then 0 else 99) f 0 ((M.1.take 40).drop (n - i))).1)), some (.int (iI (bst (fun j => if j = k then 0 else 99) f 0 ((M.1.take 40).drop (n - i))).2)), some (.int (iI i)), x8] [] σ := by
          intro mm
          induction mm using Nat.strongRecOn with
          | ind mm ih =>
            intro i hm hi x8
            have hle := bst_le (fun j => if j = k then 0 else 99) f 0 ((M.1.take 40).drop (n - i))
            have hb := hw.b36 ok (n - 1 - i)
            have hap : ap L (M.1.getD (n - 1 - i) 0 / 6) k ≤ 5 := pc5_le _
            refine g_iload_7 hR dX8_doesBy_82 (g_iload_4 hR dX8_doesBy_84 (g_icmp_ge hR 180 dX8_doesBy_86 (by decide) (by omega) (by omega) (fun zc86 => ?_) (fun zc86 => ?_)))
            · skip
              refine g_iload_5 hR dX8_doesBy_180 ?_
              exact g_iret hR dX8_doesBy_182 rfl (by rw [show i = n from by omega, Nat.sub_self]; rfl) rfl
            · skip
              refine g_iload_1 hR dX8_doesBy_89 (g_iconst hR dX8_doesBy_90 (g_icmp_ne hR 112 dX8_doesBy_91 (by decide) (by omega) (by omega) (fun zc91 => ?_) (fun zc91 => ?_)))
              · skip
                refine g_aload_0 hR dX8_doesBy_112 (g_getR hR dX8_doesBy_113 flX8_16 (by decide) rfl rfl (g_iload_7 hR dX8_doesBy_116 (g_aldU hR _ dX8_doesBy_118 (by decide) rfl (by decide) (by omega) (hwd i (by omega)) (by omega) (g_bipush hR dX8_doesBy_119 (by decide) (g_idiv hR dX8_doesBy_121 (by omega) (by omega) (g_iload_3 hR dX8_doesBy_122 (g_icmp_ne hR 130 dX8_doesBy_123 (by decide) (by omega) (by omega) (fun zc123 => ?_) (fun zc123 => ?_))))))))
                · skip
                  refine g_bipush hR dX8_doesBy_130 (by decide) (g_istore_8 hR dX8_doesBy_132 rfl (g_iload_8 hR dX8_doesBy_134 (g_iload_6 hR dX8_doesBy_136 (g_icmp_gt hR 154 dX8_doesBy_138 (by decide) (by omega) (by omega) (fun zc138 => ?_) (fun zc138 => ?_)))))
                  · skip
                    refine g_iload_5 hR dX8_doesBy_154 (g_istore_5 hR dX8_doesBy_156 rfl (g_iload_8 hR dX8_doesBy_158 (g_iload_6 hR dX8_doesBy_160 (g_icmp_gt hR 170 dX8_doesBy_162 (by decide) (by omega) (by omega) (fun zc162 => ?_) (fun zc162 => ?_)))))
                    · skip
                      refine g_iload_6 hR dX8_doesBy_170 (g_istore_6 hR dX8_doesBy_172 rfl (g_iinc_7 hR dX8_doesBy_174 rfl (g_goto hR 82 dX8_doesBy_177 (by decide) ?_)))
                      have h9 := ih (n - (i + 1)) (by omega) (i + 1) rfl (by omega)
                      rw [tk_step hn (show i < n from by omega)] at h9
                      simp only [bst] at h9
                      rw [if_neg (show ¬ (if M.1.getD (n - 1 - i) 0 / 6 = k then 0 else 99) ≤ (bst (fun j => if j = k then 0 else 99) f 0 ((M.1.take 40).drop (n - i))).2 from by rw [if_neg (by omega)]; omega)] at h9
                      exact h9 _
                    · skip
                      exact absurd zc162 (by omega)
                  · skip
                    exact absurd zc138 (by omega)
                · skip
                  refine g_iconst hR dX8_doesBy_126 (g_goto hR 132 dX8_doesBy_127 (by decide) (g_istore_8 hR dX8_doesBy_132 rfl (g_iload_8 hR dX8_doesBy_134 (g_iload_6 hR dX8_doesBy_136 (g_icmp_gt hR 154 dX8_doesBy_138 (by decide) (by omega) (by omega) (fun zc138 => ?_) (fun zc138 => ?_))))))
                  · skip
                    exact absurd zc138 (by omega)
                  · skip
                    refine g_aload_0 hR dX8_doesBy_141 (g_getR hR dX8_doesBy_142 flX8_16 (by decide) rfl rfl (g_iload_7 hR dX8_doesBy_145 (g_aldU hR _ dX8_doesBy_147 (by decide) rfl (by decide) (by omega) (hwd i (by omega)) (by omega) (g_bipush hR dX8_doesBy_148 (by decide) (g_irem hR dX8_doesBy_150 (by omega) (by omega) (g_goto hR 156 dX8_doesBy_151 (by decide) (g_istore_5 hR dX8_doesBy_156 rfl (g_iload_8 hR dX8_doesBy_158 (g_iload_6 hR dX8_doesBy_160 (g_icmp_gt hR 170 dX8_doesBy_162 (by decide) (by omega) (by omega) (fun zc162 => ?_) (fun zc162 => ?_)))))))))))
                    · skip
                      exact absurd zc162 (by omega)
                    · skip
                      refine g_iload_8 hR dX8_doesBy_165 (g_goto hR 172 dX8_doesBy_167 (by decide) (g_istore_6 hR dX8_doesBy_172 rfl (g_iinc_7 hR dX8_doesBy_174 rfl (g_goto hR 82 dX8_doesBy_177 (by decide) ?_))))
                      have h9 := ih (n - (i + 1)) (by omega) (i + 1) rfl (by omega)
                      rw [tk_step hn (show i < n from by omega)] at h9
                      simp only [bst] at h9
                      rw [if_pos (show (if M.1.getD (n - 1 - i) 0 / 6 = k then 0 else 99) ≤ (bst (fun j => if j = k then 0 else 99) f 0 ((M.1.take 40).drop (n - i))).2 from by rw [if_pos (by omega)]; omega), if_pos (show M.1.getD (n - 1 - i) 0 / 6 = k from by omega)] at h9
                      exact h9 _
              · skip
                exact absurd zc91 (by omega)
        have h0 := loop n 0 (by omega) (by omega)
        rw [Nat.sub_zero, List.drop_eq_nil_of_le (by rw [List.length_take]; omega)] at h0
        exact h0 _
      · skip
        obtain rfl : s = 2 := by omega
        refine g_bipush hR dX8_doesBy_71 (by decide) (g_goto hR 77 dX8_doesBy_73 (by decide) (g_istore_6 hR dX8_doesBy_77 rfl (g_iconst hR dX8_doesBy_79 (g_istore_7 hR dX8_doesBy_80 rfl ?_))))
        have loop : ∀ (mm : Nat) (i : Nat), mm = n - i → i ≤ n → ∀ x8 : Option Value, G 82 [some (.ref (f_ad E 0)), some (.int (iI (2 : Nat))), some (.int (iI f)), some (.int (iI k)), some (.int (iI n)), some (.int (iI (bst (fun j => ap L j k) f 99 ((M.1.take 40).drop (n - i))).1)), some (.int (iI (bst (fun j => ap L j k) f 99 ((M.1.take 40).drop (n - i))).2)), some (.int (iI i)), x8] [] σ := by
          intro mm
          induction mm using Nat.strongRecOn with
          | ind mm ih =>
            intro i hm hi x8
            have hle := bst_le (fun j => ap L j k) f 99 ((M.1.take 40).drop (n - i))
            have hb := hw.b36 ok (n - 1 - i)
            have hap : ap L (M.1.getD (n - 1 - i) 0 / 6) k ≤ 5 := pc5_le _
            refine g_iload_7 hR dX8_doesBy_82 (g_iload_4 hR dX8_doesBy_84 (g_icmp_ge hR 180 dX8_doesBy_86 (by decide) (by omega) (by omega) (fun zc86 => ?_) (fun zc86 => ?_)))
            · skip
              refine g_iload_5 hR dX8_doesBy_180 ?_
              exact g_iret hR dX8_doesBy_182 rfl (by rw [show i = n from by omega, Nat.sub_self]; rfl) rfl
            · skip
              refine g_iload_1 hR dX8_doesBy_89 (g_iconst hR dX8_doesBy_90 (g_icmp_ne hR 112 dX8_doesBy_91 (by decide) (by omega) (by omega) (fun zc91 => ?_) (fun zc91 => ?_)))
              · skip
                exact absurd zc91 (by omega)
              · skip
                refine g_aload_0 hR dX8_doesBy_94 (g_aload_0 hR dX8_doesBy_95 (g_getR hR dX8_doesBy_96 flX8_16 (by decide) rfl rfl (g_iload_7 hR dX8_doesBy_99 (g_aldU hR _ dX8_doesBy_101 (by decide) rfl (by decide) (by omega) (hwd i (by omega)) (by omega) (g_bipush hR dX8_doesBy_102 (by decide) (g_idiv hR dX8_doesBy_104 (by omega) (by omega) (g_iload_3 hR dX8_doesBy_105 (g_callV2P hR dX8_doesBy_106 mlX8_158 (by decide) rfl rfl (C8_unlikeOf hL ok (k := M.1.getD (n - 1 - i) 0 / 6) (j := k) (hw.kd (by omega)) hk) (by decide) (Nat.le_of_ble_eq_true rfl) (g_goto hR 132 dX8_doesBy_109 (by decide) (g_istore_8 hR dX8_doesBy_132 rfl (g_iload_8 hR dX8_doesBy_134 (g_iload_6 hR dX8_doesBy_136 (g_icmp_gt hR 154 dX8_doesBy_138 (by decide) (by omega) (by omega) (fun zc138 => ?_) (fun zc138 => ?_))))))))))))))
                · skip
                  refine g_iload_5 hR dX8_doesBy_154 (g_istore_5 hR dX8_doesBy_156 rfl (g_iload_8 hR dX8_doesBy_158 (g_iload_6 hR dX8_doesBy_160 (g_icmp_gt hR 170 dX8_doesBy_162 (by decide) (by omega) (by omega) (fun zc162 => ?_) (fun zc162 => ?_)))))
                  · skip
                    refine g_iload_6 hR dX8_doesBy_170 (g_istore_6 hR dX8_doesBy_172 rfl (g_iinc_7 hR dX8_doesBy_174 rfl (g_goto hR 82 dX8_doesBy_177 (by decide) ?_)))
                    have h9 := ih (n - (i + 1)) (by omega) (i + 1) rfl (by omega)
                    rw [tk_step hn (show i < n from by omega)] at h9
                    simp only [bst] at h9
                    rw [if_neg (by omega)] at h9
                    exact h9 _
                  · skip
                    exact absurd zc162 (by omega)
                · skip
                  refine g_aload_0 hR dX8_doesBy_141 (g_getR hR dX8_doesBy_142 flX8_16 (by decide) rfl rfl (g_iload_7 hR dX8_doesBy_145 (g_aldU hR _ dX8_doesBy_147 (by decide) rfl (by decide) (by omega) (hwd i (by omega)) (by omega) (g_bipush hR dX8_doesBy_148 (by decide) (g_irem hR dX8_doesBy_150 (by omega) (by omega) (g_goto hR 156 dX8_doesBy_151 (by decide) (g_istore_5 hR dX8_doesBy_156 rfl (g_iload_8 hR dX8_doesBy_158 (g_iload_6 hR dX8_doesBy_160 (g_icmp_gt hR 170 dX8_doesBy_162 (by decide) (by omega) (by omega) (fun zc162 => ?_) (fun zc162 => ?_)))))))))))
                  · skip
                    exact absurd zc162 (by omega)
                  · skip
                    refine g_iload_8 hR dX8_doesBy_165 (g_goto hR 172 dX8_doesBy_167 (by decide) (g_istore_6 hR dX8_doesBy_172 rfl (g_iinc_7 hR dX8_doesBy_174 rfl (g_goto hR 82 dX8_doesBy_177 (by decide) ?_))))
                    have h9 := ih (n - (i + 1)) (by omega) (i + 1) rfl (by omega)
                    rw [tk_step hn (show i < n from by omega)] at h9
                    simp only [bst] at h9
                    rw [if_pos (by omega)] at h9
                    exact h9 _
        have h0 := loop n 0 (by omega) (by omega)
        rw [Nat.sub_zero, List.drop_eq_nil_of_le (by rw [List.length_take]; omega)] at h0
        exact h0 _
    · skip
      obtain rfl : s = 1 := by omega
      refine g_iload_4 hR dX8_doesBy_40 (g_iconst hR dX8_doesBy_42 (g_icmp_le hR 61 dX8_doesBy_43 (by decide) (by omega) (by omega) (fun zc43 => ?_) (fun zc43 => ?_)))
      · skip
        refine g_iload_2 hR dX8_doesBy_61 ?_
        exact g_iret hR dX8_doesBy_62 rfl (by rw [does_1, befD_nil (by omega)]) rfl
      · skip
        refine g_aload_0 hR dX8_doesBy_46 (g_getR hR dX8_doesBy_47 flX8_16 (by decide) rfl rfl (g_iload_4 hR dX8_doesBy_50 (g_iconst hR dX8_doesBy_52 (g_isub hR dX8_doesBy_53 (g_aldU hR _ dX8_doesBy_54 (by decide) rfl (by decide) (by omega) (hwd (n - 2) (by omega)) (by omega) (g_bipush hR dX8_doesBy_55 (by decide) (g_irem hR dX8_doesBy_57 (by omega) (by omega) (g_goto hR 62 dX8_doesBy_58 (by decide) ?_))))))))
        exact g_iret hR dX8_doesBy_62 rfl (by rw [does_1, befD_pos (by omega), show n - 1 - (n - 2) = 1 from by omega]; rfl) rfl
  · skip
    obtain rfl : s = 0 := by omega
    refine g_iload_4 hR dX8_doesBy_13 (g_if_le hR 33 dX8_doesBy_15 (by decide) (by omega) (fun zc15 => ?_) (fun zc15 => ?_))
    · skip
      refine g_iload_2 hR dX8_doesBy_33 ?_
      exact g_iret hR dX8_doesBy_34 rfl (by rw [does_0, lastD_nil (by omega)]) rfl
    · skip
      refine g_aload_0 hR dX8_doesBy_18 (g_getR hR dX8_doesBy_19 flX8_16 (by decide) rfl rfl (g_iload_4 hR dX8_doesBy_22 (g_iconst hR dX8_doesBy_24 (g_isub hR dX8_doesBy_25 (g_aldU hR _ dX8_doesBy_26 (by decide) rfl (by decide) (by omega) (hwd (n - 1) (by omega)) (by omega) (g_bipush hR dX8_doesBy_27 (by decide) (g_irem hR dX8_doesBy_29 (by omega) (by omega) (g_goto hR 34 dX8_doesBy_30 (by decide) ?_))))))))
      exact g_iret hR dX8_doesBy_34 rfl (by rw [does_0, lastD_pos (by omega), show n - 1 - (n - 1) = 0 from by omega]; rfl) rfl

theorem StM.hear {σ u : f_Mem} {M : Mms} {w : Nat} (h : StM σ 3 0 M) (hA : 40 ≤ M.1.length → ∀ i, i < 39 → u 3 i = σ 3 (i + 1)) (hB : M.1.length < 40 → ∀ i, i < M.1.length → u 3 i = σ 3 i) (hw : u 3 (min 39 M.1.length) = iI (w : Nat)) (hm : u 3 40 = iI (min 40 (M.1.length + 1) : Nat)) (ho : ∀ i, 40 < i → u 3 i = σ 3 i) : StM u 3 0 (w :: M.1, M.2) := fun i v q => by
  rw [Nat.zero_add]
  have e : ∀ i v, stL M i = some v → σ 3 i = iI (v : Nat) := fun i v q => by have := h i v q; rwa [Nat.zero_add] at this
  by_cases h1 : i < 40
  · have q2 : stW (w :: M.1) i = some v := by unfold stL at q; rw [if_pos h1] at q; exact q
    rw [stW_cons] at q2
    by_cases h2 : 40 ≤ M.1.length
    · rw [if_pos h2] at q2
      by_cases h3 : i < 39
      · rw [if_pos h3] at q2
        rw [hA h2 i h3]
        exact e (i + 1) v (by unfold stL; rw [if_pos (by omega)]; exact q2)
      · rw [if_neg h3, if_pos (by omega)] at q2
        rw [show i = min 39 M.1.length from by omega, hw, Option.some.inj q2]
    · rw [if_neg h2] at q2
      by_cases h3 : i = M.1.length
      · rw [if_pos h3] at q2
        rw [show i = min 39 M.1.length from by omega, hw, Option.some.inj q2]
      · rw [if_neg h3] at q2
        have h4 : i < M.1.length := by
          by_cases h5 : i < M.1.length
          · exact h5
          · unfold stW at q2; rw [if_neg (by omega)] at q2; cases q2
        rw [hB (by omega) i h4]
        exact e i v (by unfold stL; rw [if_pos h1]; exact q2)
  · by_cases h2 : i = 40
    · subst h2
      rw [hm]
      have := Option.some.inj (show some (min 40 (w :: M.1).length) = some v from q)
      rw [← this]; rfl
    · rw [ho i (by omega)]
      refine e i v ?_
      unfold stL at q ⊢
      rw [if_neg h1, if_neg h2] at q ⊢
      exact q
theorem stL_days {r h : List Nat} {d d2 l g : Nat} (i v : Nat) (hi : i ≠ 41) (q : stL (r, h, d, l, g) i = some v) : stL (r, h, d2, l, g) i = some v := by
  unfold stL at q ⊢; simp only [if_neg hi] at q ⊢; exact q
theorem stL_lost {r h : List Nat} {d l l2 g : Nat} (i v : Nat) (hi : i ≠ 42) (q : stL (r, h, d, l, g) i = some v) : stL (r, h, d, l2, g) i = some v := by
  unfold stL at q ⊢; simp only [if_neg hi] at q ⊢; exact q
theorem stL_good {r h : List Nat} {d l g g2 : Nat} (i v : Nat) (hi : i ≠ 43) (q : stL (r, h, d, l, g) i = some v) : stL (r, h, d, l, g2) i = some v := by
  unfold stL at q ⊢; simp only [if_neg hi] at q ⊢; exact q
theorem stL_hand {r h : List Nat} {d l g k w : Nat} (i v : Nat) (hi : i ≠ 44 + k) (q : stL (r, h.set k w, d, l, g) i = some v) : stL (r, h, d, l, g) i = some v := by
  unfold stL at q ⊢
  by_cases h1 : i < 44
  · by_cases a : i < 40
    · rw [if_pos a] at q ⊢; exact q
    · by_cases b : i = 40
      · rw [if_neg a, if_pos b] at q ⊢; exact q
      · by_cases c : i = 41
        · rw [if_neg a, if_neg b, if_pos c] at q ⊢; exact q
        · by_cases d : i = 42
          · rw [if_neg a, if_neg b, if_neg c, if_pos d] at q ⊢; exact q
          · rw [if_neg a, if_neg b, if_neg c, if_neg d, if_pos (by omega)] at q ⊢; exact q
  · rw [if_neg (by omega), if_neg (by omega), if_neg (by omega), if_neg (by omega), if_neg (by omega)] at q ⊢
    by_cases h2 : i < 50
    · rw [if_pos h2] at q ⊢
      rw [← q]
      simp only [List.getD]
      rw [List.getElem?_set_ne (by omega)]
    · rw [if_neg h2] at q; cases q
theorem stL_at44 {r h : List Nat} {d l g k v : Nat} (hk : k < 6) (q : stL (r, h, d, l, g) (44 + k) = some v) : v = h.getD k 0 := by
  unfold stL at q
  rw [if_neg (by omega), if_neg (by omega), if_neg (by omega), if_neg (by omega), if_neg (by omega), if_pos (by omega), show 44 + k - 44 = k from by omega] at q
  exact (Option.some.inj q).symm
theorem getD_set_at {l : List Nat} {k v : Nat} (h : k < l.length) : (l.set k v).getD k 0 = v := by simp [List.getD, h]
def dayU (L : Les) (s f k : Nat) (M : Mms) : Mms := (dayR L s f k M.1, M.2.1.set k (M.2.1.getD k 0 + 1), M.2.2.1 + 1, M.2.2.2.1 + lo L k (does L s f k M.1), M.2.2.2.2 + if oc L k (does L s f k M.1) = 0 then 1 else 0)
/-- j cells of one array, from p on, are those of another, from o on -/
def Cp (σ u : f_Mem) (a p b o j : Nat) : Prop := ∀ i, i < j → u a (p + i) = σ b (o + i)
theorem Cp.step {σ u v : f_Mem} {a p b o j : Nat} (h : Cp σ u a p b o j) (hf : u b (o + j) = σ b (o + j)) (hw : Wr u v a (p + j) (iI (u b (o + j)).toInt)) : Cp σ v a p b o (j + 1) := fun i hi => by
  by_cases e : i = j
  · subst e; rw [hw.1, ← iI_of, hf]
  · rw [hw.2.1 (p + i) (by omega)]; exact h i (by omega)
theorem Cp.st {σ u : f_Mem} {a p b o : Nat} {M : Mms} (h : StM σ b o M) (c : Cp σ u a p b o 50) : StM u a p M := h.cp c

theorem C8_hear {E : f_E} {σ : f_Mem} {M : Mms} (hS : StM σ 3 0 M) {k d : Nat} : FV E sM mX8_hear 0 [.ref (f_ad E 0), .int (iI k), .int (iI d)] σ (fun u => StM u 3 0 ((6 * k + d) :: M.1, M.2) ∧ FrM [3] [] σ u) := by
  refine FV.intro rfl (Nat.le_of_ble_eq_true rfl) (L0 := [some (.ref (f_ad E 0)), some (.int (iI k)), some (.int (iI d)), none]) rfl (fun G hR => ?_)
  refine g_aload_0 hR dX8_hear_0 (g_getR hR dX8_hear_1 flX8_16 (by decide) rfl rfl (g_bipush hR dX8_hear_4 (by decide) (g_aldU hR _ dX8_hear_6 (by decide) rfl (by decide) (by omega) hS.many (by omega) (g_bipush hR dX8_hear_7 (by decide) (g_icmp_ne hR 51 dX8_hear_9 (by decide) (by omega) (by omega) (fun zc9 => ?_) (fun zc9 => ?_))))))
  · skip
    have hlt : M.1.length < 40 := by omega
    refine g_aload_0 hR dX8_hear_51 (g_getR hR dX8_hear_52 flX8_16 (by decide) rfl rfl (g_aload_0 hR dX8_hear_55 (g_getR hR dX8_hear_56 flX8_16 (by decide) rfl rfl (g_bipush hR dX8_hear_59 (by decide) (g_aldU hR _ dX8_hear_61 (by decide) rfl (by decide) (by omega) hS.many (by omega) (g_bipush hR dX8_hear_62 (by decide) (g_iload_1 hR dX8_hear_64 (g_imul hR dX8_hear_65 (g_iload_2 hR dX8_hear_66 (g_iadd hR dX8_hear_67 (g_astU hR (M.1.length) dX8_hear_68 (by decide) rfl (by decide) (by omega) (by omega) (fun zu1 hzu1 => (g_aload_0 hR dX8_hear_69 (g_getR hR dX8_hear_70 flX8_16 (by decide) rfl rfl (g_bipush hR dX8_hear_73 (by decide) (g_dup2 hR dX8_hear_75 rfl rfl (g_aldU hR _ dX8_hear_76 (by decide) rfl (by decide) (by omega) ((hzu1.2.1 40 (by omega)).trans hS.many) (by omega) (g_iconst hR dX8_hear_77 (g_iadd hR dX8_hear_78 (g_astU hR (40) dX8_hear_79 (by decide) rfl (by decide) (by omega) (by omega) (fun zu2 hzu2 => ?_)))))))))))))))))))))
    exact g_vret hR dX8_hear_80 rfl ⟨StM.hear hS (fun q => absurd q (by omega)) (fun _ i hi => (hzu2.2.1 i (by omega)).trans (hzu1.2.1 i (by omega))) (by rw [show min 39 M.1.length = M.1.length from by omega, hzu2.2.1 _ (by omega), hzu1.1]; exact congrArg iI (by omega)) (by rw [hzu2.1]; exact congrArg iI (by omega)) (fun i hi => (hzu2.2.1 i (by omega)).trans (hzu1.2.1 i (by omega))), (FrM.ar hzu1 (by decide) (by decide)).tr (FrM.ar hzu2 (by decide) (by decide))⟩
  · skip
    have hge : 40 ≤ M.1.length := by omega
    refine g_iconst hR dX8_hear_12 (g_istore_3 hR dX8_hear_13 rfl ?_)
    have loop : ∀ (mm : Nat) (j : Nat) (u : f_Mem), mm = 39 - j → j ≤ 39 → (∀ i, i < j → u 3 i = σ 3 (i + 1)) → (∀ i, j ≤ i → u 3 i = σ 3 i) → FrM [3] [] σ u → G 14 [some (.ref (f_ad E 0)), some (.int (iI k)), some (.int (iI d)), some (.int (iI j))] [] u := by
      intro mm
      induction mm using Nat.strongRecOn with
      | ind mm ih =>
        intro j u hm hj h1 h2 hF
        refine g_iload_3 hR dX8_hear_14 (g_bipush hR dX8_hear_15 (by decide) (g_icmp_ge hR 40 dX8_hear_17 (by decide) (by omega) (by omega) (fun zc17 => ?_) (fun zc17 => ?_)))
        · skip
          refine g_aload_0 hR dX8_hear_40 (g_getR hR dX8_hear_41 flX8_16 (by decide) rfl rfl (g_bipush hR dX8_hear_44 (by decide) (g_dup2 hR dX8_hear_46 rfl rfl (g_aldU hR _ dX8_hear_47 (by decide) rfl (by decide) (by omega) (show u 3 40 = iI ((min 40 M.1.length : Nat) : Int) from (h2 40 (by omega)).trans hS.many) (by omega) (g_iconst hR dX8_hear_48 (g_isub hR dX8_hear_49 (g_astU hR (40) dX8_hear_50 (by decide) rfl (by decide) (by omega) (by omega) (fun zu1 hzu1 => (g_aload_0 hR dX8_hear_51 (g_getR hR dX8_hear_52 flX8_16 (by decide) rfl rfl (g_aload_0 hR dX8_hear_55 (g_getR hR dX8_hear_56 flX8_16 (by decide) rfl rfl (g_bipush hR dX8_hear_59 (by decide) (g_aldU hR _ dX8_hear_61 (by decide) rfl (by decide) (by omega) hzu1.1 (by omega) (g_bipush hR dX8_hear_62 (by decide) (g_iload_1 hR dX8_hear_64 (g_imul hR dX8_hear_65 (g_iload_2 hR dX8_hear_66 (g_iadd hR dX8_hear_67 (g_astU hR (39) dX8_hear_68 (by decide) rfl (by decide) (by omega) (by omega) (fun zu2 hzu2 => (g_aload_0 hR dX8_hear_69 (g_getR hR dX8_hear_70 flX8_16 (by decide) rfl rfl (g_bipush hR dX8_hear_73 (by decide) (g_dup2 hR dX8_hear_75 rfl rfl (g_aldU hR _ dX8_hear_76 (by decide) rfl (by decide) (by omega) ((hzu2.2.1 40 (by omega)).trans hzu1.1) (by omega) (g_iconst hR dX8_hear_77 (g_iadd hR dX8_hear_78 (g_astU hR (40) dX8_hear_79 (by decide) rfl (by decide) (by omega) (by omega) (fun zu3 hzu3 => ?_))))))))))))))))))))))))))))))
          obtain rfl : j = 39 := by omega
          exact g_vret hR dX8_hear_80 rfl ⟨StM.hear hS (fun _ i hi => (hzu3.2.1 i (by omega)).trans ((hzu2.2.1 i (by omega)).trans ((hzu1.2.1 i (by omega)).trans (h1 i hi)))) (fun q => absurd q (by omega)) (by rw [show min 39 M.1.length = 39 from by omega, hzu3.2.1 _ (by omega), hzu2.1]; exact congrArg iI (by omega)) (by rw [hzu3.1]; exact congrArg iI (by omega)) (fun i hi => (hzu3.2.1 i (by omega)).trans ((hzu2.2.1 i (by omega)).trans ((hzu1.2.1 i (by omega)).trans (h2 i (by omega))))), hF.tr ((FrM.ar hzu1 (by decide) (by decide)).tr ((FrM.ar hzu2 (by decide) (by decide)).tr (FrM.ar hzu3 (by decide) (by decide))))⟩
        · skip
          refine g_aload_0 hR dX8_hear_20 (g_getR hR dX8_hear_21 flX8_16 (by decide) rfl rfl (g_iload_3 hR dX8_hear_24 (g_aload_0 hR dX8_hear_25 (g_getR hR dX8_hear_26 flX8_16 (by decide) rfl rfl (g_iload_3 hR dX8_hear_29 (g_iconst hR dX8_hear_30 (g_iadd hR dX8_hear_31 (g_aldU hR _ dX8_hear_32 (by decide) rfl (by decide) (by omega) (iI_of (u 3 (j + 1))) (by omega) (g_astU hR (j) dX8_hear_33 (by decide) rfl (by decide) (by omega) (by omega) (fun zu1 hzu1 => (g_iinc_3 hR dX8_hear_34 rfl (g_goto hR 14 dX8_hear_37 (by decide) ?_))))))))))))
          refine ih (39 - (j + 1)) (by omega) (j + 1) zu1 rfl (by omega) (fun i hi => ?_) (fun i hi => (hzu1.2.1 i (by omega)).trans (h2 i (by omega))) (hF.tr (FrM.ar hzu1 (by decide) (by decide)))
          by_cases q : i = j
          · rw [q, hzu1.1, ← iI_of]; exact h2 (j + 1) (by omega)
          · rw [hzu1.2.1 i q]; exact h1 i (by omega)
    exact loop 39 0 σ (by omega) (by omega) (fun i hi => absurd hi (by omega)) (fun i _ => rfl) FrM.rf
theorem C8_day {E : f_E} {σ : f_Mem} {L : Les} {M : Mms} (hS : StM σ 3 0 M) (hL : LsM σ 1 L) (ok : LesOK L) (hw : WOK L M.1) (h6h : M.2.1.length = 6) {s f k : Nat} (hs : s < 4) (hf : f < 6) (hk : k < (Lm L).length) : FZ E sM mX8_day 3 [.ref (f_ad E 0), .int (iI s), .int (iI f), .int (iI k)] σ (oc L k (does L s f k M.1) : Nat) (fun u => StM u 3 0 (dayU L s f k M) ∧ u 0 17 = iI (does L s f k M.1 : Nat) ∧ FrM [3] [17] σ u) := by
  have hK6 := ok.k
  have h6 := does_lt L s hf k M.1
  have ho2 := oc_le L k (does L s f k M.1)
  refine FZ.intro rfl (Nat.le_of_ble_eq_true rfl) (L0 := [some (.ref (f_ad E 0)), some (.int (iI s)), some (.int (iI f)), some (.int (iI k)), none]) rfl (fun G hR => ?_)
  refine g_aload_0 hR dX8_day_0 (g_aload_0 hR dX8_day_1 (g_iload_1 hR dX8_day_2 (g_iload_2 hR dX8_day_3 (g_iload_3 hR dX8_day_4 (g_callV3P hR dX8_day_5 mlX8_166 (by decide) rfl rfl (C8_doesBy hS hL ok hw hs hf hk) (by decide) (Nat.le_of_ble_eq_true rfl) (g_putU hR dX8_day_8 fpX8_170 (by decide) rfl rfl (fun zu1 hzu1 => ?_)))))))
  have hF1 : FrM [3] [17] σ zu1 := .fd hzu1 (by decide)
  have hS1 := hS.fr (hzu1.2.2 3 (by omega))
  have hL1 := hL.fr (hzu1.2.2 1 (by omega))
  refine g_aload_0 hR dX8_day_11 (g_iload_3 hR dX8_day_12 (g_aload_0 hR dX8_day_13 (g_getI hR _ dX8_day_14 flX8_170 (by decide) rfl rfl hzu1.1 (g_callV2P hR dX8_day_17 mlX8_173 (by decide) rfl rfl (C8_goes hL1 ok hk h6) (by decide) (Nat.le_of_ble_eq_true rfl) (g_istore_4 hR dX8_day_20 rfl (g_aload_0 hR dX8_day_22 (g_getR hR dX8_day_23 flX8_16 (by decide) rfl rfl (g_bipush hR dX8_day_26 (by decide) (g_dup2 hR dX8_day_28 rfl rfl (g_aldU hR _ dX8_day_29 (by decide) rfl (by decide) (by omega) hS1.days (by omega) (g_iconst hR dX8_day_30 (g_iadd hR dX8_day_31 (g_astU hR (0 + 41) dX8_day_32 (by decide) rfl (by decide) (by omega) (by omega) (fun zu2 hzu2 => ?_))))))))))))))
  have hF2 : FrM [3] [17] σ zu2 := hF1.tr (.ar hzu2 (by decide) (by decide))
  have hS2 : StM zu2 3 0 (M.1, M.2.1, M.2.2.1 + 1, M.2.2.2.1, M.2.2.2.2) := hS1.set hzu2 stL_days (fun v q => by have := Option.some.inj (show some (M.2.2.1 + 1) = some v from q); omega)
  have hL2 := hL1.fr (hzu2.2.2 1 (by omega))
  refine g_aload_0 hR dX8_day_33 (g_getR hR dX8_day_34 flX8_16 (by decide) rfl rfl (g_bipush hR dX8_day_37 (by decide) (g_dup2 hR dX8_day_39 rfl rfl (g_aldU hR _ dX8_day_40 (by decide) rfl (by decide) (by omega) hS2.lost (by omega) ?_))))
  have r61 : G 61 [some (.ref (f_ad E 0)), some (.int (iI s)), some (.int (iI f)), some (.int (iI k)), some (.int (iI (oc L k (does L s f k M.1) : Nat)))] [.int (iI (lo L k (does L s f k M.1) : Nat)), .int (iI (M.2.2.2.1 : Nat)), .int (iI 42), .ref (f_ad E 3)] zu2 := by
    refine g_iadd hR dX8_day_61 (g_astU hR (0 + 42) dX8_day_62 (by decide) rfl (by decide) (by omega) (by omega) (fun zu3 hzu3 => ?_))
    have hF3 : FrM [3] [17] σ zu3 := hF2.tr (.ar hzu3 (by decide) (by decide))
    have hS3 : StM zu3 3 0 (M.1, M.2.1, M.2.2.1 + 1, M.2.2.2.1 + lo L k (does L s f k M.1), M.2.2.2.2) := hS2.set hzu3 stL_lost (fun v q => by have := Option.some.inj (show some (M.2.2.2.1 + lo L k (does L s f k M.1)) = some v from q); omega)
    have hL3 := hL2.fr (hzu3.2.2 1 (by omega))
    refine g_aload_0 hR dX8_day_63 (g_getR hR dX8_day_64 flX8_16 (by decide) rfl rfl (g_bipush hR dX8_day_67 (by decide) (g_dup2 hR dX8_day_69 rfl rfl (g_aldU hR _ dX8_day_70 (by decide) rfl (by decide) (by omega) hS3.goods (by omega) ?_))))
    have r81 : G 81 [some (.ref (f_ad E 0)), some (.int (iI s)), some (.int (iI f)), some (.int (iI k)), some (.int (iI (oc L k (does L s f k M.1) : Nat)))] [.int (iI ((if oc L k (does L s f k M.1) = 0 then 1 else 0 : Nat) : Int)), .int (iI (M.2.2.2.2 : Nat)), .int (iI 43), .ref (f_ad E 3)] zu3 := by
      refine g_iadd hR dX8_day_81 (g_astU hR (0 + 43) dX8_day_82 (by decide) rfl (by decide) (by omega) (by omega) (fun zu4 hzu4 => ?_))
      have hF4 : FrM [3] [17] σ zu4 := hF3.tr (.ar hzu4 (by decide) (by decide))
      have hS4 : StM zu4 3 0 (M.1, M.2.1, M.2.2.1 + 1, M.2.2.2.1 + lo L k (does L s f k M.1), M.2.2.2.2 + if oc L k (does L s f k M.1) = 0 then 1 else 0) := hS3.set hzu4 stL_good (fun v q => by have := Option.some.inj (show some (M.2.2.2.2 + if oc L k (does L s f k M.1) = 0 then 1 else 0) = some v from q); omega)
      have hL4 := hL3.fr (hzu4.2.2 1 (by omega))
      refine g_aload_0 hR dX8_day_83 (g_getR hR dX8_day_84 flX8_16 (by decide) rfl rfl (g_bipush hR dX8_day_87 (by decide) (g_iload_3 hR dX8_day_89 (g_iadd hR dX8_day_90 (g_dup2 hR dX8_day_91 rfl rfl (g_aldU hR _ dX8_day_92 (by decide) rfl (by decide) (by omega) (hS4.hd (k := k) (by omega)) (by omega) (g_iconst hR dX8_day_93 (g_iadd hR dX8_day_94 (g_astU hR (0 + (44 + k)) dX8_day_95 (by decide) rfl (by decide) (by omega) (by omega) (fun zu5 hzu5 => ?_))))))))))
      have hF5 : FrM [3] [17] σ zu5 := hF4.tr (.ar hzu5 (by decide) (by decide))
      have hS5 : StM zu5 3 0 (M.1, M.2.1.set k (M.2.1.getD k 0 + 1), M.2.2.1 + 1, M.2.2.2.1 + lo L k (does L s f k M.1), M.2.2.2.2 + if oc L k (does L s f k M.1) = 0 then 1 else 0) := hS4.set hzu5 stL_hand (fun v q => by rw [stL_at44 (by omega) q, getD_set_at (by omega)]; show ((M.2.1.getD k 0 + 1 : Nat) : Int) = (M.2.1.getD k 0 : Int) + 1; omega)
      have hL5 := hL4.fr (hzu5.2.2 1 (by omega))
      have hd5 : zu5 0 17 = iI (does L s f k M.1 : Nat) := by rw [hzu5.2.2 0 (by omega), hzu4.2.2 0 (by omega), hzu3.2.2 0 (by omega), hzu2.2.2 0 (by omega), hzu1.1]
      refine g_iload_4 hR dX8_day_96 (g_if_eq hR 116 dX8_day_98 (by decide) (by omega) (fun zc98 => ?_) (fun zc98 => ?_))
      · skip
        refine g_iload_4 hR dX8_day_116 ?_
        have e9 : dayR L s f k M.1 = M.1 := if_pos (by omega)
        exact g_iret hR dX8_day_118 rfl rfl ⟨by unfold dayU; rw [e9]; exact hS5, hd5, hF5⟩
      · skip
        refine g_aload_0 hR dX8_day_101 (g_iload_3 hR dX8_day_102 (g_aload_0 hR dX8_day_103 (g_getR hR dX8_day_104 flX8_7 (by decide) rfl rfl (g_iconst hR dX8_day_107 (g_iload_3 hR dX8_day_108 (g_imul hR dX8_day_109 (g_iconst hR dX8_day_110 (g_iadd hR dX8_day_111 (g_aldU hR _ dX8_day_112 (by decide) rfl (by decide) (by omega) (hL5 k hk).2.1 (by omega) (g_callV2V hR dX8_day_113 mlX8_176 (by decide) rfl rfl (C8_hear (k := k) (d := (Lr L).getD k 0) hS5) (by decide) (Nat.le_of_ble_eq_true rfl) (fun zu6 hzu6 => (g_iload_4 hR dX8_day_116 ?_))))))))))))
        have e9 : dayR L s f k M.1 = (6 * k + (Lr L).getD k 0) :: M.1 := if_neg (by omega)
        exact g_iret hR dX8_day_118 rfl rfl ⟨by unfold dayU; rw [e9]; exact hzu6.1, by rw [hzu6.2.2 17 (by decide)]; exact hd5, hF5.tr (hzu6.2.mono (by decide) (by decide))⟩
    refine g_iload_4 hR dX8_day_71 (g_if_ne hR 80 dX8_day_73 (by decide) (by omega) (fun zc73 => ?_) (fun zc73 => ?_))
    · skip
      refine g_iconst hR dX8_day_80 ?_
      rw [if_neg (by omega)] at r81
      exact r81
    · skip
      refine g_iconst hR dX8_day_76 (g_goto hR 81 dX8_day_77 (by decide) ?_)
      rw [if_pos (by omega)] at r81
      exact r81
  refine g_iload_4 hR dX8_day_41 (g_iconst hR dX8_day_43 (g_icmp_ne hR 60 dX8_day_44 (by decide) (by omega) (by omega) (fun zc44 => ?_) (fun zc44 => ?_)))
  · skip
    refine g_iconst hR dX8_day_60 ?_
    rw [show lo L k (does L s f k M.1) = 0 from if_neg (by omega)] at r61
    exact r61
  · skip
    refine g_aload_0 hR dX8_day_47 (g_getR hR dX8_day_48 flX8_7 (by decide) rfl rfl (g_iconst hR dX8_day_51 (g_iload_3 hR dX8_day_52 (g_imul hR dX8_day_53 (g_iconst hR dX8_day_54 (g_iadd hR dX8_day_55 (g_aldU hR _ dX8_day_56 (by decide) rfl (by decide) (by omega) (hL2 k hk).2.2.2.1 (by omega) (g_goto hR 61 dX8_day_57 (by decide) ?_))))))))
    rw [show lo L k (does L s f k M.1) = (Lw L).getD k 0 from if_pos (by omega)] at r61
    exact r61
theorem C8_putAside {E : f_E} {σ : f_Mem} : FV E sM mX8_putAside 0 [.ref (f_ad E 0)] σ (fun u => Cp σ u 9 0 3 0 50 ∧ FrM [9] [] σ u) := by
  refine FV.intro rfl (Nat.le_of_ble_eq_true rfl) (L0 := [some (.ref (f_ad E 0)), none]) rfl (fun G hR => ?_)
  refine g_iconst hR dX8_putAside_0 (g_istore_1 hR dX8_putAside_1 rfl ?_)
  have loop : ∀ (mm : Nat) (j : Nat) (u : f_Mem), mm = 50 - j → j ≤ 50 → Cp σ u 9 0 3 0 j → FrM [9] [] σ u → G 2 [some (.ref (f_ad E 0)), some (.int (iI j))] [] u := by
    intro mm
    induction mm using Nat.strongRecOn with
    | ind mm ih =>
      intro j u hm hj hc hF
      refine g_iload_1 hR dX8_putAside_2 (g_bipush hR dX8_putAside_3 (by decide) (g_icmp_ge hR 26 dX8_putAside_5 (by decide) (by omega) (by omega) (fun zc5 => ?_) (fun zc5 => ?_)))
      · skip
        obtain rfl : j = 50 := by omega
        exact g_vret hR dX8_putAside_26 rfl ⟨hc, hF⟩
      · skip
        refine g_aload_0 hR dX8_putAside_8 (g_getR hR dX8_putAside_9 flX8_34 (by decide) rfl rfl (g_iload_1 hR dX8_putAside_12 (g_aload_0 hR dX8_putAside_13 (g_getR hR dX8_putAside_14 flX8_16 (by decide) rfl rfl (g_iload_1 hR dX8_putAside_17 (g_aldU hR _ dX8_putAside_18 (by decide) rfl (by decide) (by omega) (iI_of (u 3 (0 + j))) (by omega) (g_astU hR (0 + j) dX8_putAside_19 (by decide) rfl (by decide) (by omega) (by omega) (fun zu1 hzu1 => (g_iinc_1 hR dX8_putAside_20 rfl (g_goto hR 2 dX8_putAside_23 (by decide) ?_))))))))))
        exact ih (50 - (j + 1)) (by omega) (j + 1) zu1 rfl (by omega) (hc.step (hF.1 3 (by omega) (by decide) ▸ rfl) hzu1) (hF.tr (FrM.ar hzu1 (by omega) (by simp)))
  exact loop 50 0 σ (by omega) (by omega) (fun i hi => absurd hi (by omega)) FrM.rf
theorem C8_takeBack {E : f_E} {σ : f_Mem} : FV E sM mX8_takeBack 0 [.ref (f_ad E 0)] σ (fun u => Cp σ u 3 0 9 0 50 ∧ FrM [3] [] σ u) := by
  refine FV.intro rfl (Nat.le_of_ble_eq_true rfl) (L0 := [some (.ref (f_ad E 0)), none]) rfl (fun G hR => ?_)
  refine g_iconst hR dX8_takeBack_0 (g_istore_1 hR dX8_takeBack_1 rfl ?_)
  have loop : ∀ (mm : Nat) (j : Nat) (u : f_Mem), mm = 50 - j → j ≤ 50 → Cp σ u 3 0 9 0 j → FrM [3] [] σ u → G 2 [some (.ref (f_ad E 0)), some (.int (iI j))] [] u := by
    intro mm
    induction mm using Nat.strongRecOn with
    | ind mm ih =>
      intro j u hm hj hc hF
      refine g_iload_1 hR dX8_takeBack_2 (g_bipush hR dX8_takeBack_3 (by decide) (g_icmp_ge hR 26 dX8_takeBack_5 (by decide) (by omega) (by omega) (fun zc5 => ?_) (fun zc5 => ?_)))
      · skip
        obtain rfl : j = 50 := by omega
        exact g_vret hR dX8_takeBack_26 rfl ⟨hc, hF⟩
      · skip
        refine g_aload_0 hR dX8_takeBack_8 (g_getR hR dX8_takeBack_9 flX8_16 (by decide) rfl rfl (g_iload_1 hR dX8_takeBack_12 (g_aload_0 hR dX8_takeBack_13 (g_getR hR dX8_takeBack_14 flX8_34 (by decide) rfl rfl (g_iload_1 hR dX8_takeBack_17 (g_aldU hR _ dX8_takeBack_18 (by decide) rfl (by decide) (by omega) (iI_of (u 9 (0 + j))) (by omega) (g_astU hR (0 + j) dX8_takeBack_19 (by decide) rfl (by decide) (by omega) (by omega) (fun zu1 hzu1 => (g_iinc_1 hR dX8_takeBack_20 rfl (g_goto hR 2 dX8_takeBack_23 (by decide) ?_))))))))))
        exact ih (50 - (j + 1)) (by omega) (j + 1) zu1 rfl (by omega) (hc.step (hF.1 9 (by omega) (by decide) ▸ rfl) hzu1) (hF.tr (FrM.ar hzu1 (by omega) (by simp)))
  exact loop 50 0 σ (by omega) (by omega) (fun i hi => absurd hi (by omega)) FrM.rf
theorem C8_copyTo {E : f_E} {σ : f_Mem} {a b : Nat} (ha : a < sM.1 ∧ sM.2 a = .inr (.inl 50) ∧ a ≠ 0) (hb : b < sM.1 ∧ sM.2 b = .inr (.inl 50) ∧ b ≠ 0) (hab : b ≠ a) : FV E sM mX8_copyTo 0 [.ref (f_ad E 0), .ref (f_ad E a), .ref (f_ad E b)] σ (fun u => Cp σ u a 0 b 0 50 ∧ FrM [a] [] σ u) := by
  refine FV.intro rfl (Nat.le_of_ble_eq_true rfl) (L0 := [some (.ref (f_ad E 0)), some (.ref (f_ad E a)), some (.ref (f_ad E b)), none]) rfl (fun G hR => ?_)
  refine g_iconst hR dX8_copyTo_0 (g_istore_3 hR dX8_copyTo_1 rfl ?_)
  have loop : ∀ (mm : Nat) (j : Nat) (u : f_Mem), mm = 50 - j → j ≤ 50 → Cp σ u a 0 b 0 j → FrM [a] [] σ u → G 2 [some (.ref (f_ad E 0)), some (.ref (f_ad E a)), some (.ref (f_ad E b)), some (.int (iI j))] [] u := by
    intro mm
    induction mm using Nat.strongRecOn with
    | ind mm ih =>
      intro j u hm hj hc hF
      refine g_iload_3 hR dX8_copyTo_2 (g_bipush hR dX8_copyTo_3 (by decide) (g_icmp_ge hR 20 dX8_copyTo_5 (by decide) (by omega) (by omega) (fun zc5 => ?_) (fun zc5 => ?_)))
      · skip
        obtain rfl : j = 50 := by omega
        exact g_vret hR dX8_copyTo_20 rfl ⟨hc, hF⟩
      · skip
        refine g_aload_1 hR dX8_copyTo_8 (g_iload_3 hR dX8_copyTo_9 (g_aload_2 hR dX8_copyTo_10 (g_iload_3 hR dX8_copyTo_11 (g_aldU hR _ dX8_copyTo_12 hb.1 hb.2.1 (by decide) (by omega) (iI_of (u b (0 + j))) (by omega) (g_astU hR (0 + j) dX8_copyTo_13 ha.1 ha.2.1 (by decide) (by omega) (by omega) (fun zu1 hzu1 => (g_iinc_3 hR dX8_copyTo_14 rfl (g_goto hR 2 dX8_copyTo_17 (by decide) ?_))))))))
        exact ih (50 - (j + 1)) (by omega) (j + 1) zu1 rfl (by omega) (hc.step (hF.1 b (by omega) (by simp; omega) ▸ rfl) hzu1) (hF.tr (FrM.ar hzu1 (by omega) (by simp)))
  exact loop 50 0 σ (by omega) (by omega) (fun i hi => absurd hi (by omega)) FrM.rf

def runU (L : Les) (s f : Nat) : List Nat → Mms → Mms
  | [], M => M
  | k :: t, M => runU L s f t (dayU L s f k M)
theorem runU_snoc (L : Les) (s f k : Nat) : ∀ (row : List Nat) (M : Mms), runU L s f (row ++ [k]) M = dayU L s f k (runU L s f row M)
  | [], M => rfl
  | j :: t, M => runU_snoc L s f k t _
theorem runU_1 (L : Les) (s f : Nat) : ∀ (row : List Nat) (M : Mms), (runU L s f row M).1 = runR L s f row M.1
  | [], M => rfl
  | k :: t, M => runU_1 L s f t (dayU L s f k M)
theorem runU_6 (L : Les) (s f : Nat) : ∀ (row : List Nat) (M : Mms), (runU L s f row M).2.1.length = M.2.1.length
  | [], M => rfl
  | k :: t, M => by
    show (runU L s f t (dayU L s f k M)).2.1.length = _
    rw [runU_6 L s f t]
    exact List.length_set
theorem runU_l (L : Les) (s f : Nat) : ∀ (row : List Nat) (M : Mms), (runU L s f row M).2.2.2.1 = M.2.2.2.1 + runL L s f row M.1
  | [], M => rfl
  | k :: t, M => by
    show (runU L s f t (dayU L s f k M)).2.2.2.1 = _
    rw [runU_l L s f t]
    show M.2.2.2.1 + lo L k (does L s f k M.1) + runL L s f t (dayR L s f k M.1) = M.2.2.2.1 + (lo L k (does L s f k M.1) + runL L s f t (dayR L s f k M.1))
    omega
/-- what was done, how it went -/
def Dn (u : f_Mem) (L : Les) (s f : Nat) (row r : List Nat) (n : Nat) : Prop := ∀ i, i < n → u 10 i = iI ((runD L s f row r).getD i 0 : Nat) ∧ u 11 i = iI (oc L (row.getD i 0) ((runD L s f row r).getD i 0) : Nat)
theorem Dn.fr {σ u : f_Mem} {L : Les} {s f n : Nat} {row r : List Nat} (h : Dn σ L s f row r n) (h1 : u 10 = σ 10) (h2 : u 11 = σ 11) : Dn u L s f row r n := fun i hi => by rw [h1, h2]; exact h i hi

theorem C8_runRow {E : f_E} {σ : f_Mem} {L : Les} {M : Mms} (hS : StM σ 3 0 M) (hL : LsM σ 1 L) (ok : LesOK L) (hw : WOK L M.1) (h6h : M.2.1.length = 6) {row : List Nat} (hrow : RwM σ 2 row) (h5 : σ 0 5 = iI (row.length : Nat)) (hrk : ∀ k ∈ row, k < (Lm L).length) (hrl : row.length ≤ 10) {s f : Nat} (hs : s < 4) (hf : f < 6) : FZ E sM mX8_runRow 4 [.ref (f_ad E 0), .int (iI s), .int (iI f)] σ (runL L s f row M.1 : Nat) (fun u => StM u 3 0 (runU L s f row M) ∧ Dn u L s f row M.1 row.length ∧ FrM [3, 10, 11] [17] σ u) := by
  refine FZ.intro rfl (Nat.le_of_ble_eq_true rfl) (L0 := [some (.ref (f_ad E 0)), some (.int (iI s)), some (.int (iI f)), none, none]) rfl (fun G hR => ?_)
  refine g_aload_0 hR dX8_runRow_0 (g_getR hR dX8_runRow_1 flX8_16 (by decide) rfl rfl (g_bipush hR dX8_runRow_4 (by decide) (g_aldU hR _ dX8_runRow_6 (by decide) rfl (by decide) (by omega) hS.lost (by omega) (g_istore_3 hR dX8_runRow_7 rfl (g_iconst hR dX8_runRow_8 (g_istore_4 hR dX8_runRow_9 rfl ?_))))))
  have loop : ∀ (mm : Nat) (j : Nat) (u : f_Mem), mm = row.length - j → j ≤ row.length → StM u 3 0 (runU L s f (row.take j) M) → Dn u L s f row M.1 j → FrM [3, 10, 11] [17] σ u → G 11 [some (.ref (f_ad E 0)), some (.int (iI s)), some (.int (iI f)), some (.int (iI (M.2.2.2.1 : Nat))), some (.int (iI j))] [] u := by
    intro mm
    induction mm using Nat.strongRecOn with
    | ind mm ih =>
      intro j u hm hj hS1 hD hF
      have hL1 := hL.fr (hF.1 1 (by decide) (by decide))
      have hw1 : WOK L (runU L s f (row.take j) M).1 := by rw [runU_1]; exact runR_ok ok s f _ _ (fun k hk => hrk k (List.mem_of_mem_take hk)) hw
      have h61 : (runU L s f (row.take j) M).2.1.length = 6 := by rw [runU_6]; exact h6h
      have hk1 : j < row.length → row.getD j 0 < (Lm L).length := fun q => hrk _ (getD_mem q)
      refine g_iload_4 hR dX8_runRow_11 (g_aload_0 hR dX8_runRow_13 (g_getI hR _ dX8_runRow_14 flX8_71 (by decide) rfl rfl ((hF.2 5 (by decide)).trans h5) (g_icmp_ge hR 57 dX8_runRow_17 (by decide) (by omega) (by omega) (fun zc17 => ?_) (fun zc17 => ?_))))
      · skip
        refine g_aload_0 hR dX8_runRow_57 (g_getR hR dX8_runRow_58 flX8_16 (by decide) rfl rfl (g_bipush hR dX8_runRow_61 (by decide) (g_aldU hR _ dX8_runRow_63 (by decide) rfl (by decide) (by omega) hS1.lost (by omega) (g_iload_3 hR dX8_runRow_64 (g_isub hR dX8_runRow_65 ?_)))))
        obtain rfl : j = row.length := by omega
        rw [List.take_length] at hS1 ⊢
        exact g_iret hR dX8_runRow_66 rfl (by rw [runU_l]; omega) ⟨hS1, hD, hF⟩
      · skip
        refine g_aload_0 hR dX8_runRow_20 (g_getR hR dX8_runRow_21 flX8_40 (by decide) rfl rfl (g_iload_4 hR dX8_runRow_24 (g_aload_0 hR dX8_runRow_26 (g_iload_1 hR dX8_runRow_27 (g_iload_2 hR dX8_runRow_28 (g_aload_0 hR dX8_runRow_29 (g_getR hR dX8_runRow_30 flX8_13 (by decide) rfl rfl (g_iload_4 hR dX8_runRow_33 (g_aldU hR _ dX8_runRow_35 (by decide) rfl (by decide) (by omega) (hrow.fr (hF.1 2 (by decide) (by decide)) j (by omega)) (by omega) (g_callV3Z hR dX8_runRow_36 mlX8_185 (by decide) rfl rfl (C8_day hS1 hL1 ok hw1 h61 hs hf (hk1 (by omega))) (by decide) (Nat.le_of_ble_eq_true rfl) (fun zu1 hzu1 => (g_astU hR (j) dX8_runRow_39 (by decide) rfl (by decide) (by omega) (by omega) (fun zu2 hzu2 => ?_)))))))))))))
        
        refine g_aload_0 hR dX8_runRow_40 (g_getR hR dX8_runRow_41 flX8_37 (by decide) rfl rfl (g_iload_4 hR dX8_runRow_44 (g_aload_0 hR dX8_runRow_46 (g_getI hR _ dX8_runRow_47 flX8_170 (by decide) rfl rfl ((congrFun (hzu2.2.2 0 (by omega)) 17).trans hzu1.2.1) (g_astU hR (j) dX8_runRow_50 (by decide) rfl (by decide) (by omega) (by omega) (fun zu3 hzu3 => (g_iinc_4 hR dX8_runRow_51 rfl (g_goto hR 11 dX8_runRow_54 (by decide) ?_))))))))
        refine ih (row.length - (j + 1)) (by omega) (j + 1) zu3 rfl (by omega) ?_ ?_ (hF.tr ((hzu1.2.2.mono (by decide) (by decide)).tr ((FrM.ar hzu2 (by decide) (by decide)).tr (FrM.ar hzu3 (by decide) (by decide)))))
        · rw [take_snoc (by omega), runU_snoc]
          exact (hzu1.1.fr (hzu2.2.2 3 (by omega))).fr (hzu3.2.2 3 (by omega))
        · intro i hi
          by_cases q : i = j
          · subst q
            rw [runD_get L s f row M.1 i (by omega), ← runU_1, hzu3.1, hzu3.2.2 11 (by omega), hzu2.1]
            exact ⟨rfl, rfl⟩
          · rw [hzu3.2.1 i q, hzu3.2.2 11 (by omega), hzu2.2.1 i q, hzu2.2.2 10 (by omega), hzu1.2.2.1 10 (by decide) (by decide), hzu1.2.2.1 11 (by decide) (by decide)]
            exact hD i (by omega)
  exact loop row.length 0 σ (by omega) (by omega) hS (fun i hi => absurd hi (by omega)) FrM.rf
theorem C8_tryRow {E : f_E} {σ : f_Mem} {L : Les} {M : Mms} (hS : StM σ 3 0 M) (hL : LsM σ 1 L) (hH : HdM σ L) (ok : LesOK L) (hw : WOK L M.1) (h6h : M.2.1.length = 6) {row : List Nat} (hrow : RwM σ 2 row) (h5 : σ 0 5 = iI (row.length : Nat)) (hrk : ∀ k ∈ row, k < (Lm L).length) (hrl : row.length ≤ 10) {s : Nat} (hs : s < 4) : FZ E sM mX8_tryRow 5 [.ref (f_ad E 0), .int (iI s)] σ (runL L s (Lfirst L) row M.1 : Nat) (fun u => StM u 3 0 M ∧ Dn u L s (Lfirst L) row M.1 row.length ∧ FrM [3, 9, 10, 11] [17] σ u) := by
  refine FZ.intro rfl (Nat.le_of_ble_eq_true rfl) (L0 := [some (.ref (f_ad E 0)), some (.int (iI s)), none]) rfl (fun G hR => ?_)
  refine g_aload_0 hR dX8_tryRow_0 (g_callV0V hR dX8_tryRow_1 mlX8_188 (by decide) rfl rfl (C8_putAside) (by decide) (Nat.le_of_ble_eq_true rfl) (fun zu1 hzu1 => (g_aload_0 hR dX8_tryRow_4 (g_iload_1 hR dX8_tryRow_5 (g_aload_0 hR dX8_tryRow_6 (g_getI hR _ dX8_tryRow_7 flX8_139 (by decide) rfl rfl ((hzu1.2.2 3 (by decide)).trans hH.2.2) (g_callV2Z hR dX8_tryRow_10 mlX8_191 (by decide) rfl rfl (C8_runRow (hS.fr (hzu1.2.1 3 (by decide) (by decide))) (hL.fr (hzu1.2.1 1 (by decide) (by decide))) ok hw h6h (hrow.fr (hzu1.2.1 2 (by decide) (by decide))) ((hzu1.2.2 5 (by decide)).trans h5) hrk hrl hs ok.f) (by decide) (Nat.le_of_ble_eq_true rfl) (fun zu2 hzu2 => (g_istore_2 hR dX8_tryRow_13 rfl (g_aload_0 hR dX8_tryRow_14 (g_callV0V hR dX8_tryRow_15 mlX8_194 (by decide) rfl rfl (C8_takeBack) (by decide) (Nat.le_of_ble_eq_true rfl) (fun zu3 hzu3 => (g_iload_2 hR dX8_tryRow_18 ?_)))))))))))))
  exact g_iret hR dX8_tryRow_19 rfl rfl ⟨hS.cp (fun i hi => (hzu3.1 i hi).trans ((congrFun (hzu2.2.2.1 9 (by decide) (by decide)) (0 + i)).trans (hzu1.1 i hi))), hzu2.2.1.fr (hzu3.2.1 10 (by decide) (by decide)) (hzu3.2.1 11 (by decide) (by decide)), (hzu1.2.mono (by decide) (by decide)).tr ((hzu2.2.2.mono (by decide) (by decide)).tr (hzu3.2.mono (by decide) (by decide)))⟩
