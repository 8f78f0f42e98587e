
def k_z : f_Mem := fun _ _ => 0
def S_l (l : List f_Shp) : f_S := (l.length, fun k => l.getD k (.inr (.inl 0)))
def A_l (l : List Nat) : Nat → Nat := fun k => l.getD k 0
def M_l (l : List (Nat → Int32)) : f_Mem := fun k => l.getD k (fun _ => 0)
def S_num (cap : Nat) : f_S := S_l [.inl (3, [some (some 1), none]), .inr (.inl cap)]
def S_lsn : f_S := S_l [.inl (1, [some (some 1), some (some 3), some (some 5), some (some 7), some (some 9), some (some 11), none, none]), .inl (3, [some (some 2), none]), .inr (.inl 6), .inl (3, [some (some 4), none]), .inr (.inl 6), .inl (3, [some (some 6), none]), .inr (.inl 6), .inl (3, [some (some 8), none]), .inr (.inl 6), .inl (3, [some (some 10), none]), .inr (.inl 6), .inl (3, [some (some 12), none]), .inr (.inl 10)]
def S_mem : f_S := S_l [.inl (2, [some (some 1), some (some 3), none, none, none]), .inl (3, [some (some 2), none]), .inr (.inl 40), .inl (3, [some (some 4), none]), .inr (.inl 6)]
def P_z (E : f_E) (S : f_S) : Nat → va_W → Prop := k_Po E S (fun σ => σ = k_z)
def pr_mem (σ : f_Mem) : Prop := σ 0 = (fun _ => 0) ∧ σ 1 = (fun _ => 0) ∧ σ 2 = (fun _ => 0) ∧ σ 3 1 = 6 ∧ ∀ i, σ 4 i = 0
section JI
variable {cc : ByteArray} {own : String} {D MC MS : Nat} {E : f_E} {ci h0 : Nat} {Po : Nat → va_W → Prop} {G : k_G} {pc : Nat} {L : f_L} {rest fs : List Value} {R : va_W} {k n i q c2 d mc ms : Nat} {fs2 : List Value} {Y : f_Y} {P2 : Nat → va_W → Prop}
theorem j_init0 (hR : RulK cc own D MC MS E ci h0 Po G) (hd : decode cc pc = .ok (.invokespecial i, 3)) (hl : k_LI own i Y 0) (hM : CM E Y d mc ms c2 fs2 [] P2) (h1 : d + 1 ≤ D) (h2 : k + mc ≤ MC) (h3 : n + ms ≤ MS) (h4 : (rest.map fun v => v.category).sum ≤ 8) (kk : ∀ w, P2 q w → G (pc + 3) L rest (fs, R ++ w, k + mc, n + ms)) : G pc L (.ref q :: rest) (fs, R ++ [(q, .inr (c2, fs2))], k, n) := j_init hR pc L rest fs R k n [] i q c2 d mc ms fs2 Y P2 hd hl hM h1 h2 h3 h4 kk
theorem j_init1 {a1 : Value} (hR : RulK cc own D MC MS E ci h0 Po G) (hd : decode cc pc = .ok (.invokespecial i, 3)) (hl : k_LI own i Y 1) (hM : CM E Y d mc ms c2 fs2 [a1] P2) (h1 : d + 1 ≤ D) (h2 : k + mc ≤ MC) (h3 : n + ms ≤ MS) (h4 : (rest.map fun v => v.category).sum ≤ 8) (kk : ∀ w, P2 q w → G (pc + 3) L rest (fs, R ++ w, k + mc, n + ms)) : G pc L (a1 :: .ref q :: rest) (fs, R ++ [(q, .inr (c2, fs2))], k, n) := j_init hR pc L rest fs R k n [a1] i q c2 d mc ms fs2 Y P2 hd hl hM h1 h2 h3 h4 kk
theorem j_init2 {a1 a2 : Value} (hR : RulK cc own D MC MS E ci h0 Po G) (hd : decode cc pc = .ok (.invokespecial i, 3)) (hl : k_LI own i Y 2) (hM : CM E Y d mc ms c2 fs2 [a1, a2] P2) (h1 : d + 1 ≤ D) (h2 : k + mc ≤ MC) (h3 : n + ms ≤ MS) (h4 : (rest.map fun v => v.category).sum ≤ 8) (kk : ∀ w, P2 q w → G (pc + 3) L rest (fs, R ++ w, k + mc, n + ms)) : G pc L (a2 :: a1 :: .ref q :: rest) (fs, R ++ [(q, .inr (c2, fs2))], k, n) := j_init hR pc L rest fs R k n [a1, a2] i q c2 d mc ms fs2 Y P2 hd hl hM h1 h2 h3 h4 kk
theorem j_fm2V {a1 a2 : Value} {fsh : List (Option (Option Nat))} {S : f_S} {ad : Nat → Nat} {σ : f_Mem} {PM : f_Mem → Prop} (hR : RulK cc own D MC MS E ci h0 Po G) (hd : decode cc pc = .ok (.invokevirtual i, 3)) (hl : f_LV own i Y 2) (hn : 0 < S.1) (hs : S.2 0 = .inl (c2, fsh)) (hc : (vwCl[c2]?).map (fun q => q.1) = some Y.1.cls) (hM : FV (k_E E ad) S Y d [.ref (ad 0), a1, a2] σ PM) (hD : d + 1 ≤ D) (h4 : (rest.map fun v => v.category).sum ≤ 8) (kk : ∀ u, PM u → G (pc + 3) L rest (fs, R ++ f_wl (k_E E ad) S u, k, n)) : G pc L (a2 :: a1 :: .ref (ad 0) :: rest) (fs, R ++ f_wl (k_E E ad) S σ, k, n) := j_fm hR Unit pc L rest fs R k n [a1, a2] i c2 d fsh S ad σ Y eV (fun _ u => PM u) hd hl hn hs hc hM hD h4 (fun _ u hu => kk u hu)
end JI
def isSn : Prop := True
theorem sn6 : isSn := trivial
theorem isSn.lt (_ : isSn) : 0 < (S_num 6).1 := by decide
theorem isSn.lt1 (_ : isSn) : 1 < (S_num 6).1 := by decide
theorem isSn.obj (_ : isSn) : (S_num 6).2 0 = .inl (3, [some (some 1), none]) := rfl
theorem isSn.arr (_ : isSn) : (S_num 6).2 1 = .inr (.inl 6) := rfl
theorem isSn.cap (_ : isSn) : 6 < 2147483648 := by decide

theorem Sn_add {E : f_E} {σ : f_Mem} {j : Nat} (h1 : σ 0 1 = iI j) (h2 : ∀ i, σ 1 i = 0) (hj : j < 6) : FV E (S_num 6) mX3_add 0 [.ref (f_ad E 0), .int (iI 0)] σ (fun u => u 0 1 = iI ((j + 1 : Nat) : Int) ∧ ∀ i, u 1 i = 0) := by
  refine FV.intro rfl (Nat.le_of_ble_eq_true rfl) (L0 := [some (.ref (f_ad E 0)), some (.int (iI 0))]) rfl (fun G hR => ?_)
  refine g_aload_0 hR dX3_add_0 (g_getI hR _ dX3_add_1 flX3_19 sn6.lt sn6.obj rfl h1 (g_if_lt hR 39 dX3_add_4 (by decide) (by omega) (fun c4 => ?_) (fun c4 => ?_)))
  · skip
    exact absurd c4 (by omega)
  · skip
    refine g_aload_0 hR dX3_add_7 (g_getI hR _ dX3_add_8 flX3_19 sn6.lt sn6.obj rfl h1 (g_aload_0 hR dX3_add_11 (g_getR hR dX3_add_12 flX3_13 sn6.lt sn6.obj rfl (g_alenI hR dX3_add_15 sn6.lt1 sn6.arr (g_icmp_ge hR 39 dX3_add_16 (by decide) (by omega) (by omega) (fun c16 => ?_) (fun c16 => ?_))))))
    · skip
      exact absurd c16 (by omega)
    · skip
      refine g_aload_0 hR dX3_add_19 (g_getR hR dX3_add_20 flX3_13 sn6.lt sn6.obj rfl (g_aload_0 hR dX3_add_23 (g_getI hR _ dX3_add_24 flX3_19 sn6.lt sn6.obj rfl h1 (g_iload_1 hR dX3_add_27 (g_ast hR dX3_add_28 sn6.lt1 sn6.arr sn6.cap (by omega) (g_aload_0 hR dX3_add_29 (g_dup hR dX3_add_30 rfl (g_getI hR _ dX3_add_31 flX3_19 sn6.lt sn6.obj rfl (by rw [m_set_n (by decide)]; exact h1) (g_iconst hR dX3_add_34 (g_iadd hR dX3_add_35 (g_put hR dX3_add_36 fpX3_19 sn6.lt sn6.obj rfl ?_)))))))))))
      exact g_vret hR dX3_add_39 rfl ⟨by rw [m_set_at]; rfl, fun i => by
    rw [m_set_n (by decide)]
    simp only [m_set, m_row, upd, if_true]
    split
    · rfl
    · exact h2 i⟩
theorem Sn_fill {E : f_E} : FV E (S_num 6) mX3_fill 1 [.ref (f_ad E 0), .int (iI 6), .int (iI 0)] k_z (fun u => u 0 1 = 6 ∧ ∀ i, u 1 i = 0) := by
  refine FV.intro rfl (Nat.le_of_ble_eq_true rfl) (L0 := [some (.ref (f_ad E 0)), some (.int (iI 6)), some (.int (iI 0)), none]) rfl (fun G hR => ?_)
  refine g_aload_0 hR dX3_fill_0 (g_iconst hR dX3_fill_1 (g_put hR dX3_fill_2 fpX3_19 sn6.lt sn6.obj rfl (g_iconst hR dX3_fill_5 (g_istore_3 hR dX3_fill_6 rfl ?_))))
  have loop : ∀ (m j : Nat) (u : f_Mem), m = 6 - j → j ≤ 6 → u 0 1 = iI j → (∀ i, u 1 i = 0) → G 7 [some (.ref (f_ad E 0)), some (.int (iI (6))), some (.int (iI (0))), some (.int (iI (j)))] [] u := by
    intro m
    induction m using Nat.strongRecOn with
    | ind m ih =>
      intro j u hm hj hN hF
      refine g_iload_3 hR dX3_fill_7 (g_iload_1 hR dX3_fill_8 (g_icmp_ge hR 23 dX3_fill_9 (by decide) (by omega) (by omega) (fun c9 => ?_) (fun c9 => ?_)))
      · skip
        exact g_vret hR dX3_fill_23 rfl ⟨(by have e : j = 6 := (by omega); subst e; exact hN), hF⟩
      · skip
        refine g_aload_0 hR dX3_fill_12 (g_iload_2 hR dX3_fill_13 (g_callV1V hR dX3_fill_14 mlX3_23 sn6.lt sn6.obj rfl (Sn_add hN hF (by omega)) (by decide) (Nat.le_of_ble_eq_true rfl) (fun u1 hu1 => (g_iinc_3 hR dX3_fill_17 rfl (g_goto hR 7 dX3_fill_20 (by decide) ?_)))))
        exact ih (6 - (j + 1)) (by omega) (j + 1) u1 rfl (by omega) hu1.1 hu1.2
  exact loop 6 0 _ (by omega) (by omega) (by rw [m_set_at]; rfl) (fun i => by rw [m_set_n (by decide)]; rfl)
theorem K_num {E : f_E} {cap : Nat} (hc : cap ≤ 1000) : CM E mX3_init 1 1 cap 3 [.null, .int 0] [.int (iI cap)] (P_z E (S_num cap)) := by
  refine CM.intro rfl rfl rfl (fun _ => Nat.le_of_ble_eq_true rfl) (L0 := fun h0 => [some (.ref h0), some (.int (iI cap))]) (fun _ => rfl) (fun h0 G hR => ?_)
  refine j_aload_n hR _ _ _ _ _ _ dX3_init_0 rfl (j_oinit hR _ _ _ _ _ _ dX3_init_1 oiX3_1 (by decide) (Nat.le_of_ble_eq_true rfl) (j_aload_n hR _ _ _ _ _ _ dX3_init_4 rfl (j_iconst hR _ _ _ _ _ (iI 0) dX3_init_5 rfl (j_iload_n hR _ _ _ _ _ _ dX3_init_6 rfl (j_max hR _ _ _ _ _ _ _ (iI cap) dX3_init_7 mlX3_7 (by decide) (Nat.le_of_ble_eq_true rfl) ((iI_max (by omega) (by omega)).trans (congrArg iI (by omega))) (j_newa hR _ _ _ _ _ _ _ _ cap dX3_init_10 (by rw [iI_0, iI_lt (by omega) (by omega)]; omega) (by rw [iI_clamp (by omega) (by omega)]; omega) (by omega) (by omega) (by omega) (fun q1 => (j_putf hR _ _ _ _ _ _ _ _ _ _ dX3_init_12 ffX3_13 (Or.inr ⟨_, rfl⟩) (Nat.le_of_ble_eq_true rfl) ?_))))))))
  refine j_ret hR _ _ _ _ _ _ dX3_init_15 (by omega) (by omega) ?_
  exact ⟨A_l [h0, q1], k_z, rfl, rfl, rfl⟩
theorem K_lsn {E : f_E} : CM E mX1_init 2 12 52 1 [.null, .null, .null, .null, .null, .null, .int 0, .int 0] [] (P_z E S_lsn) := by
  refine CM.intro rfl rfl rfl (fun _ => Nat.le_of_ble_eq_true rfl) (L0 := fun h0 => [some (.ref h0)]) (fun _ => rfl) (fun h0 G hR => ?_)
  refine j_aload_n hR _ _ _ _ _ _ dX1_init_0 rfl (j_oinit hR _ _ _ _ _ _ dX1_init_1 oiX1_3 (by decide) (Nat.le_of_ble_eq_true rfl) (j_aload_n hR _ _ _ _ _ _ dX1_init_4 rfl (j_new hR _ _ _ _ _ _ _ _ _ _ _ dX1_init_5 nlX1_9 (by decide) (by decide) (fun q1 => (j_dup hR _ _ _ _ _ dX1_init_8 rfl (j_bipush hR _ _ _ _ _ (iI 6) dX1_init_9 (by decide) (j_init1 hR dX1_init_11 liX1_11 (K_num (E := E) (cap := 6) (by decide)) (by decide) (by decide) (by decide) (Nat.le_of_ble_eq_true rfl) (fun w1 h1 => ?_))))))))
  obtain ⟨ad1, s1, rfl, rfl, rfl⟩ := h1
  refine j_putf hR _ _ _ _ _ _ _ _ _ _ dX1_init_14 ffX1_14 (Or.inr ⟨_, rfl⟩) (Nat.le_of_ble_eq_true rfl) (j_aload_n hR _ _ _ _ _ _ dX1_init_17 rfl (j_new hR _ _ _ _ _ _ _ _ _ _ _ dX1_init_18 nlX1_9 (by decide) (by decide) (fun q2 => (j_dup hR _ _ _ _ _ dX1_init_21 rfl (j_bipush hR _ _ _ _ _ (iI 6) dX1_init_22 (by decide) (j_init1 hR dX1_init_24 liX1_11 (K_num (E := E) (cap := 6) (by decide)) (by decide) (by decide) (by decide) (Nat.le_of_ble_eq_true rfl) (fun w2 h2 => ?_)))))))
  obtain ⟨ad2, s2, rfl, rfl, rfl⟩ := h2
  refine j_putf hR _ _ _ _ _ _ _ _ _ _ dX1_init_27 ffX1_20 (Or.inr ⟨_, rfl⟩) (Nat.le_of_ble_eq_true rfl) (j_aload_n hR _ _ _ _ _ _ dX1_init_30 rfl (j_new hR _ _ _ _ _ _ _ _ _ _ _ dX1_init_31 nlX1_9 (by decide) (by decide) (fun q3 => (j_dup hR _ _ _ _ _ dX1_init_34 rfl (j_bipush hR _ _ _ _ _ (iI 6) dX1_init_35 (by decide) (j_init1 hR dX1_init_37 liX1_11 (K_num (E := E) (cap := 6) (by decide)) (by decide) (by decide) (by decide) (Nat.le_of_ble_eq_true rfl) (fun w3 h3 => ?_)))))))
  obtain ⟨ad3, s3, rfl, rfl, rfl⟩ := h3
  refine j_putf hR _ _ _ _ _ _ _ _ _ _ dX1_init_40 ffX1_23 (Or.inr ⟨_, rfl⟩) (Nat.le_of_ble_eq_true rfl) (j_aload_n hR _ _ _ _ _ _ dX1_init_43 rfl (j_new hR _ _ _ _ _ _ _ _ _ _ _ dX1_init_44 nlX1_9 (by decide) (by decide) (fun q4 => (j_dup hR _ _ _ _ _ dX1_init_47 rfl (j_bipush hR _ _ _ _ _ (iI 6) dX1_init_48 (by decide) (j_init1 hR dX1_init_50 liX1_11 (K_num (E := E) (cap := 6) (by decide)) (by decide) (by decide) (by decide) (Nat.le_of_ble_eq_true rfl) (fun w4 h4 => ?_)))))))
  obtain ⟨ad4, s4, rfl, rfl, rfl⟩ := h4
  refine j_putf hR _ _ _ _ _ _ _ _ _ _ dX1_init_53 ffX1_26 (Or.inr ⟨_, rfl⟩) (Nat.le_of_ble_eq_true rfl) (j_aload_n hR _ _ _ _ _ _ dX1_init_56 rfl (j_new hR _ _ _ _ _ _ _ _ _ _ _ dX1_init_57 nlX1_9 (by decide) (by decide) (fun q5 => (j_dup hR _ _ _ _ _ dX1_init_60 rfl (j_bipush hR _ _ _ _ _ (iI 6) dX1_init_61 (by decide) (j_init1 hR dX1_init_63 liX1_11 (K_num (E := E) (cap := 6) (by decide)) (by decide) (by decide) (by decide) (Nat.le_of_ble_eq_true rfl) (fun w5 h5 => ?_)))))))
  obtain ⟨ad5, s5, rfl, rfl, rfl⟩ := h5
  refine j_putf hR _ _ _ _ _ _ _ _ _ _ dX1_init_66 ffX1_29 (Or.inr ⟨_, rfl⟩) (Nat.le_of_ble_eq_true rfl) (j_aload_n hR _ _ _ _ _ _ dX1_init_69 rfl (j_new hR _ _ _ _ _ _ _ _ _ _ _ dX1_init_70 nlX1_9 (by decide) (by decide) (fun q6 => (j_dup hR _ _ _ _ _ dX1_init_73 rfl (j_bipush hR _ _ _ _ _ (iI 10) dX1_init_74 (by decide) (j_init1 hR dX1_init_76 liX1_11 (K_num (E := E) (cap := 10) (by decide)) (by decide) (by decide) (by decide) (Nat.le_of_ble_eq_true rfl) (fun w6 h6 => ?_)))))))
  obtain ⟨ad6, s6, rfl, rfl, rfl⟩ := h6
  refine j_putf hR _ _ _ _ _ _ _ _ _ _ dX1_init_79 ffX1_32 (Or.inr ⟨_, rfl⟩) (Nat.le_of_ble_eq_true rfl) ?_
  refine j_ret hR _ _ _ _ _ _ dX1_init_82 (by omega) (by omega) ?_
  exact ⟨A_l [h0, ad1 0, ad1 1, ad2 0, ad2 1, ad3 0, ad3 1, ad4 0, ad4 1, ad5 0, ad5 1, ad6 0, ad6 1], k_z, rfl, rfl, rfl⟩
theorem K_mem {E : f_E} : CM E mX2_init 2 4 50 2 [.null, .null, .int 0, .int 0, .int 0] [] (k_Po E S_mem pr_mem) := by
  refine CM.intro rfl rfl rfl (fun _ => Nat.le_of_ble_eq_true rfl) (L0 := fun h0 => [some (.ref h0)]) (fun _ => rfl) (fun h0 G hR => ?_)
  refine j_aload_n hR _ _ _ _ _ _ dX2_init_0 rfl (j_oinit hR _ _ _ _ _ _ dX2_init_1 oiX2_3 (by decide) (Nat.le_of_ble_eq_true rfl) (j_aload_n hR _ _ _ _ _ _ dX2_init_4 rfl (j_new hR _ _ _ _ _ _ _ _ _ _ _ dX2_init_5 nlX2_9 (by decide) (by decide) (fun q1 => (j_dup hR _ _ _ _ _ dX2_init_8 rfl (j_bipush hR _ _ _ _ _ (iI 40) dX2_init_9 (by decide) (j_init1 hR dX2_init_11 liX2_11 (K_num (E := E) (cap := 40) (by decide)) (by decide) (by decide) (by decide) (Nat.le_of_ble_eq_true rfl) (fun w1 h1 => ?_))))))))
  obtain ⟨ad1, s1, rfl, rfl, rfl⟩ := h1
  refine j_putf hR _ _ _ _ _ _ _ _ _ _ dX2_init_14 ffX2_14 (Or.inr ⟨_, rfl⟩) (Nat.le_of_ble_eq_true rfl) (j_aload_n hR _ _ _ _ _ _ dX2_init_17 rfl (j_new hR _ _ _ _ _ _ _ _ _ _ _ dX2_init_18 nlX2_9 (by decide) (by decide) (fun q2 => (j_dup hR _ _ _ _ _ dX2_init_21 rfl (j_bipush hR _ _ _ _ _ (iI 6) dX2_init_22 (by decide) (j_init1 hR dX2_init_24 liX2_11 (K_num (E := E) (cap := 6) (by decide)) (by decide) (by decide) (by decide) (Nat.le_of_ble_eq_true rfl) (fun w2 h2 => ?_)))))))
  obtain ⟨ad2, s2, rfl, rfl, rfl⟩ := h2
  refine j_putf hR _ _ _ _ _ _ _ _ _ _ dX2_init_27 ffX2_20 (Or.inr ⟨_, rfl⟩) (Nat.le_of_ble_eq_true rfl) (j_aload_n hR _ _ _ _ _ _ dX2_init_30 rfl (j_getf hR _ _ _ _ _ _ _ _ _ _ dX2_init_31 flX2_20 rfl (j_bipush hR _ _ _ _ _ (iI 6) dX2_init_34 (by decide) (j_iconst hR _ _ _ _ _ (iI 0) dX2_init_36 rfl (j_fm2V hR dX2_init_37 mlX2_23 (by decide) rfl rfl (Sn_fill (E := k_E E ad2)) (by decide) (Nat.le_of_ble_eq_true rfl) (fun u hu => ?_))))))
  refine j_ret hR _ _ _ _ _ _ dX2_init_40 (by omega) (by omega) ?_
  exact ⟨A_l [h0, ad1 0, ad1 1, ad2 0, ad2 1], M_l [fun _ => 0, fun _ => 0, fun _ => 0, u 0, u 1], rfl, rfl, rfl, rfl, rfl, hu.1, hu.2⟩
