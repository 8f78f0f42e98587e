
def yX (z d : Nat) : Nat := 7919 * z + 6151 * d + 1
def yK (A : AS) (z d : Nat) : Nat := yX z d * yX z d % 65521 / 8 % AK A
def yrR (L : Les) (s f : Nat) (g : Nat → Nat) (r : List Nat) : Nat → List Nat
  | 0 => r
  | n + 1 => dayR L s f (g n) (yrR L s f g r n)
def yrL (L : Les) (s f : Nat) (g : Nat → Nat) (r : List Nat) : Nat → Nat
  | 0 => 0
  | n + 1 => yrL L s f g r n + lo L (g n) (does L s f (g n) (yrR L s f g r n))
def yrG (L : Les) (s f : Nat) (g : Nat → Nat) (r : List Nat) : Nat → Nat
  | 0 => 0
  | n + 1 => yrG L s f g r n + if oc L (g n) (does L s f (g n) (yrR L s f g r n)) = 0 then 1 else 0
theorem yrR_len (L : Les) (s f : Nat) (g : Nat → Nat) (r : List Nat) : ∀ n, (yrR L s f g r n).length ≤ r.length + n
  | 0 => Nat.le_refl _
  | n + 1 => by
    have h1 := yrR_len L s f g r n
    have h2 := dayR_len L s f (g n) (yrR L s f g r n)
    simp only [yrR]; omega
theorem yrR_ok {L : Les} (ok : LesOK L) (s f : Nat) {g : Nat → Nat} (hg : ∀ n, g n < (Lm L).length) {r : List Nat} (h : WOK L r) : ∀ n, WOK L (yrR L s f g r n)
  | 0 => h
  | n + 1 => dayR_ok ok (yrR_ok ok s f hg h n) (hg n) s f
def sp_year (A : AS) (z n w : Int) : Int := if (0 ≤ z ∧ z ≤ 9999) ∧ (1 ≤ n ∧ n ≤ 60) ∧ 0 ≤ w ∧ w ≤ 1 then (if w = 0 then (yrL (AL A) (Lsort (AL A)) (Lfirst (AL A)) (yK A z.toNat) (AM A).1 n.toNat : Nat) else (yrG (AL A) (Lsort (AL A)) (Lfirst (AL A)) (yK A z.toNat) (AM A).1 n.toNat : Nat)) else -1
theorem yK_lt {A : AS} (ok : ASOK A) (z d : Nat) : yK A z d < AK A := Nat.mod_lt _ ok.K1

theorem C_drawn {E : f_E} {σ : f_Mem} {A : AS} (h : InvC σ A) (ok : ASOK A) {z d : Nat} (hz : z ≤ 9999) (hd : d ≤ 60) : FZ E sC mX7_drawnKind 2 [.ref (f_ad E 0), .int (iI z), .int (iI d)] σ (yK A z d : Nat) (fun u => u = σ) := by
  have hK1 := ok.K1
  have hK6 := ok.K6
  have hkk : AK A = (Lm (AL A)).length := rfl
  have hX : yX z d ≤ 100000000 := by unfold yX; omega
  have hXX : (0 : Int) ≤ (yX z d : Int) * (yX z d : Int) ∧ (yX z d : Int) * (yX z d : Int) < 9223372036854775808 := by
    have q1 := Nat.mul_le_mul hX hX
    rw [show (yX z d : Int) * (yX z d : Int) = ((yX z d * yX z d : Nat) : Int) from (Int.natCast_mul _ _).symm]
    omega
  have eX : (7919 * (z : Int) + 6151 * (d : Int) + 1) = (yX z d : Int) := by unfold yX; omega
  refine FZ.intro rfl (Nat.le_of_ble_eq_true rfl) (L0 := [some (.ref (f_ad E 0)), some (.int (iI z)), some (.int (iI d)), none, none, none]) rfl (fun G hR => ?_)
  refine g_aload_0 hR dX7_drawnKind_0 (g_getR hR dX7_drawnKind_1 flX7_34 (by decide) rfl rfl (g_callV0P hR dX7_drawnKind_4 mlX7_116 sh_laid.lt sh_laid.obj rfl (C_kinds h.L) (by decide) (Nat.le_of_ble_eq_true rfl) (g_istore_3 hR dX7_drawnKind_7 rfl (g_iload_3 hR dX7_drawnKind_8 (g_if_gt hR 14 dX7_drawnKind_9 (by decide) (by omega) (fun c9 => ?_) (fun c9 => ?_))))))
  · skip
    refine g_ldc2 hR (7919) dX7_drawnKind_14 kcX7_301 (by decide) (g_iload_1 hR dX7_drawnKind_17 (g_i2l hR dX7_drawnKind_18 (by omega) (g_lmul hR dX7_drawnKind_19 (g_ldc2 hR (6151) dX7_drawnKind_20 kcX7_303 (by decide) (g_iload_2 hR dX7_drawnKind_23 (g_i2l hR dX7_drawnKind_24 (by omega) (g_lmul hR dX7_drawnKind_25 (g_ladd hR dX7_drawnKind_26 (g_lconst hR 1 dX7_drawnKind_27 (by decide) (g_ladd hR dX7_drawnKind_28 ?_))))))))))
    rw [eX]
    refine g_lstore_4 hR dX7_drawnKind_29 rfl (g_lload_4 hR dX7_drawnKind_31 (g_lload_4 hR dX7_drawnKind_33 (g_lmul hR dX7_drawnKind_35 (g_ldc2 hR (65521) dX7_drawnKind_36 kcX7_305 (by decide) (g_lrem hR dX7_drawnKind_39 hXX (by omega) (g_ldc2 hR (8) dX7_drawnKind_40 kcX7_307 (by decide) (g_ldiv hR dX7_drawnKind_43 (by omega) (by omega) (g_iload_3 hR dX7_drawnKind_44 (g_i2l hR dX7_drawnKind_45 (by omega) (g_lrem hR dX7_drawnKind_46 (by omega) (by omega) (g_l2i hR dX7_drawnKind_47 ?_)))))))))))
    exact g_iret hR dX7_drawnKind_48 rfl (by unfold yK; rw [hkk]; simp only [Int.natCast_emod, Int.natCast_ediv, Int.natCast_mul]; rfl) rfl
  · skip
    exact absurd c9 (by omega)
theorem K_year {E : f_E} {σ : f_Mem} {A : AS} (h : InvC σ A) (ok : ASOK A) {z n w : Int} (hz : -2147483648 ≤ z ∧ z < 2147483648) (hn : -2147483648 ≤ n ∧ n < 2147483648) (hw : -2147483648 ≤ w ∧ w < 2147483648) : FZ E sC mX7_year 12 [.ref (f_ad E 0), .int (iI z), .int (iI n), .int (iI w)] σ (sp_year A z n w) (fun u => InvC u A) := by
  have hK1 := ok.K1
  have hK6 := ok.K6
  have hkk : AK A = (Lm (AL A)).length := rfl
  have hwl := ok.wl
  refine FZ.intro rfl (Nat.le_of_ble_eq_true rfl) (L0 := [some (.ref (f_ad E 0)), some (.int (iI z)), some (.int (iI n)), some (.int (iI w)), none, none, none, none, none, none]) rfl (fun G hR => ?_)
  refine g_iload_1 hR dX7_year_0 (g_iconst hR dX7_year_1 (g_sipush hR dX7_year_2 (by decide) (g_callS3P hR dX7_year_5 mlX7_105 (C_isWithin hz (by omega) (by omega)) (by decide) (Nat.le_of_ble_eq_true rfl) (g_if_eq hR 30 dX7_year_8 (by decide) (by split <;> omega) (fun c8 => ?_) (fun c8 => ?_)))))
  · skip
    refine g_iconst hR dX7_year_30 ?_
    exact g_iret hR dX7_year_31 rfl (by unfold sp_year; rw [if_neg (by omega)]; skip) h
  · skip
    refine g_iload_2 hR dX7_year_11 (g_iconst hR dX7_year_12 (g_bipush hR dX7_year_13 (by decide) (g_callS3P hR dX7_year_15 mlX7_105 (C_isWithin hn (by omega) (by omega)) (by decide) (Nat.le_of_ble_eq_true rfl) (g_if_eq hR 30 dX7_year_18 (by decide) (by split <;> omega) (fun c18 => ?_) (fun c18 => ?_)))))
    · skip
      refine g_iconst hR dX7_year_30 ?_
      exact g_iret hR dX7_year_31 rfl (by unfold sp_year; rw [if_neg (by omega)]; skip) h
    · skip
      refine g_iload_3 hR dX7_year_21 (g_iconst hR dX7_year_22 (g_iconst hR dX7_year_23 (g_callS3P hR dX7_year_24 mlX7_105 (C_isWithin hw (by omega) (by omega)) (by decide) (Nat.le_of_ble_eq_true rfl) (g_if_ne hR 32 dX7_year_27 (by decide) (by split <;> omega) (fun c27 => ?_) (fun c27 => ?_)))))
      · skip
        obtain ⟨zq, rfl⟩ : ∃ zq : Nat, z = zq := ⟨z.toNat, by omega⟩
        obtain ⟨nq, rfl⟩ : ∃ nq : Nat, n = nq := ⟨n.toNat, by omega⟩
        refine g_aload_0 hR dX7_year_32 (g_aload_0 hR dX7_year_33 (g_getR hR dX7_year_34 flX7_34 (by decide) rfl rfl (g_getI hR _ dX7_year_37 flX7_167 sh_laid.lt sh_laid.obj rfl h.L.sort (g_callV1R hR dX7_year_40 mlX7_160 (by decide) rfl rfl (C_learnerNow h ok ok.L.s) (by decide) (Nat.le_of_ble_eq_true rfl) (fun u1 hu1 => (g_astore_4 hR dX7_year_43 rfl (g_iconst hR dX7_year_45 (g_istore_5 hR dX7_year_46 rfl (g_iconst hR dX7_year_48 (g_istore_6 hR dX7_year_49 rfl (g_iconst hR dX7_year_51 (g_istore_7 hR dX7_year_52 rfl ?_))))))))))))
        have loop : ∀ (mm : Nat) (j : Nat) (u : f_Mem), mm = nq - j → j ≤ nq → Lrn u 97 (some 102) (Lsort (AL A)) (Lfirst (AL A)) (yrR (AL A) (Lsort (AL A)) (Lfirst (AL A)) (yK A zq) (AM A).1 j) → Fr σ u 97 102 → ∀ x8 x9 : Option Value, G 54 [some (.ref (f_ad E 0)), some (.int (iI zq)), some (.int (iI nq)), some (.int (iI w)), some (.ref (f_ad E 97)), some (.int (iI (yrL (AL A) (Lsort (AL A)) (Lfirst (AL A)) (yK A zq) (AM A).1 j : Nat))), some (.int (iI (yrG (AL A) (Lsort (AL A)) (Lfirst (AL A)) (yK A zq) (AM A).1 j : Nat))), some (.int (iI j)), x8, x9] [] u := by
          intro mm
          induction mm using Nat.strongRecOn with
          | ind mm ih =>
            intro j u hm hj hN hF x8 x9
            have hI := h.l0 hF hN.x
            have hwj : WOK (AL A) (yrR (AL A) (Lsort (AL A)) (Lfirst (AL A)) (yK A zq) (AM A).1 j) := yrR_ok ok.L _ _ (yK_lt ok zq) ok.w j
            have hlen := yrR_len (AL A) (Lsort (AL A)) (Lfirst (AL A)) (yK A zq) (AM A).1 j
            have hkj := yK_lt ok zq j
            refine g_iload_7 hR dX7_year_54 (g_iload_2 hR dX7_year_56 (g_icmp_ge hR 124 dX7_year_57 (by decide) (by omega) (by omega) (fun c57 => ?_) (fun c57 => ?_)))
            · skip
              refine g_iload_3 hR dX7_year_124 (g_if_ne hR 133 dX7_year_125 (by decide) (by omega) (fun c125 => ?_) (fun c125 => ?_))
              · skip
                refine g_iload_6 hR dX7_year_133 ?_
                exact g_iret hR dX7_year_135 rfl (by unfold sp_year; rw [if_pos (by omega), if_neg (by omega)]; rw [show j = nq from by omega]; rfl) hI
              · skip
                refine g_iload_5 hR dX7_year_128 (g_goto hR 135 dX7_year_130 (by decide) ?_)
                exact g_iret hR dX7_year_135 rfl (by unfold sp_year; rw [if_pos (by omega), if_pos (by omega)]; rw [show j = nq from by omega]; rfl) hI
            · skip
              refine g_aload_0 hR dX7_year_60 (g_iload_1 hR dX7_year_61 (g_iload_7 hR dX7_year_62 (g_callV2P hR dX7_year_64 mlX7_262 (by decide) rfl rfl (C_drawn hI ok (z := zq) (d := j) (by omega) (by omega)) (by decide) (Nat.le_of_ble_eq_true rfl) (g_istore_8 hR dX7_year_67 rfl (g_aload_4 hR dX7_year_69 (g_iload_8 hR dX7_year_71 (g_callV1Z hR dX7_year_73 mlX7_198 sh_lrn0.lt sh_lrn0.obj rfl (C_day hN hI.L ok.L hwj ok.L.s ok.L.f (by omega) (by omega) hkj) (by decide) (Nat.le_of_ble_eq_true rfl) (fun u1 hu1 => ?_))))))))
              have hI2 := hI.l0 hu1.2 hu1.1.x
              have hd9 := does_lt (AL A) (Lsort (AL A)) ok.L.f (yK A zq j) (yrR (AL A) (Lsort (AL A)) (Lfirst (AL A)) (yK A zq) (AM A).1 j)
              have ho9 := oc_le (AL A) (yK A zq j) (does (AL A) (Lsort (AL A)) (Lfirst (AL A)) (yK A zq j) (yrR (AL A) (Lsort (AL A)) (Lfirst (AL A)) (yK A zq) (AM A).1 j))
              refine g_istore_9 hR dX7_year_76 rfl (g_iload_5 hR dX7_year_78 (g_aload_0 hR dX7_year_80 (g_getR hR dX7_year_81 flX7_34 (by decide) rfl rfl (g_iload_8 hR dX7_year_84 (g_iload_9 hR dX7_year_86 (g_callV2P hR dX7_year_88 mlX7_265 sh_laid.lt sh_laid.obj rfl (C_lost hI2.L ok.L (by omega) hd9) (by decide) (Nat.le_of_ble_eq_true rfl) (g_iadd hR dX7_year_91 (g_istore_5 hR dX7_year_92 rfl (g_iload_6 hR dX7_year_94 (g_aload_0 hR dX7_year_96 (g_getR hR dX7_year_97 flX7_34 (by decide) rfl rfl (g_iload_8 hR dX7_year_100 (g_iload_9 hR dX7_year_102 (g_callV2P hR dX7_year_104 mlX7_178 sh_laid.lt sh_laid.obj rfl (C_outcome hI2.L ok.L (by omega) hd9) (by decide) (Nat.le_of_ble_eq_true rfl) (g_if_ne hR 114 dX7_year_107 (by decide) (by omega) (fun c107 => ?_) (fun c107 => ?_))))))))))))))))
              · skip
                refine g_iconst hR dX7_year_114 (g_iadd hR dX7_year_115 (g_istore_6 hR dX7_year_116 rfl (g_iinc_7 hR dX7_year_118 rfl (g_goto hR 54 dX7_year_121 (by decide) ?_))))
                have h9 := ih (nq - (j + 1)) (by omega) (j + 1) u1 rfl (by omega) hu1.1 (hF.tr hu1.2)
                simp only [yrL, yrG] at h9
                rw [if_neg (by omega)] at h9
                exact h9 _ _
              · skip
                refine g_iconst hR dX7_year_110 (g_goto hR 115 dX7_year_111 (by decide) (g_iadd hR dX7_year_115 (g_istore_6 hR dX7_year_116 rfl (g_iinc_7 hR dX7_year_118 rfl (g_goto hR 54 dX7_year_121 (by decide) ?_)))))
                have h9 := ih (nq - (j + 1)) (by omega) (j + 1) u1 rfl (by omega) hu1.1 (hF.tr hu1.2)
                simp only [yrL, yrG] at h9
                rw [if_pos (by omega)] at h9
                exact h9 _ _
        exact loop nq 0 u1 (by omega) (by omega) hu1.1 hu1.2 _ _
      · skip
        refine g_iconst hR dX7_year_30 ?_
        exact g_iret hR dX7_year_31 rfl (by unfold sp_year; rw [if_neg (by omega)]; skip) h
theorem C_power {E : f_E} {σ : f_Mem} {b n : Nat} (hn : n < 1000) : FZ E sC mX7_power 0 [.int (iI b), .int (iI n)] σ (b ^ n : Nat) (fun u => u = σ) := by
  refine FZ.intro rfl (Nat.le_of_ble_eq_true rfl) (L0 := [some (.int (iI b)), some (.int (iI n)), none, none]) rfl (fun G hR => ?_)
  refine g_iconst hR dX7_power_0 (g_istore_2 hR dX7_power_1 rfl (g_iconst hR dX7_power_2 (g_istore_3 hR dX7_power_3 rfl ?_)))
  have loop : ∀ (mm : Nat) (j : Nat), mm = n - j → j ≤ n → G 4 [some (.int (iI b)), some (.int (iI n)), some (.int (iI (b ^ j : Nat))), some (.int (iI j))] [] σ := by
    intro mm
    induction mm using Nat.strongRecOn with
    | ind mm ih =>
      intro j hm hj
      refine g_iload_3 hR dX7_power_4 (g_iload_1 hR dX7_power_5 (g_icmp_ge hR 19 dX7_power_6 (by decide) (by omega) (by omega) (fun c6 => ?_) (fun c6 => ?_)))
      · skip
        refine g_iload_2 hR dX7_power_19 ?_
        exact g_iret hR dX7_power_20 rfl (by rw [show j = n from by omega]) rfl
      · skip
        refine g_iload_2 hR dX7_power_9 (g_iload_0 hR dX7_power_10 (g_imul hR dX7_power_11 (g_istore_2 hR dX7_power_12 rfl (g_iinc_3 hR dX7_power_13 rfl (g_goto hR 4 dX7_power_16 (by decide) ?_)))))
        have h9 := ih (n - (j + 1)) (by omega) (j + 1) rfl (by omega)
        rw [Nat.pow_succ, Int.natCast_mul] at h9
        exact h9
  exact loop n 0 (by omega) (by omega)

def gI (n x y : Nat) : Prop := (n % 2 = 0 ∧ y < 2 ^ (n / 2)) ∨ (n % 2 = 1 ∧ x < 2 ^ ((n + 1) / 2) ∧ y < x)
theorem gI_zero {n x y : Nat} (h : gI n x y) (hn : n = 0) : y = 0 := by
  subst hn
  rcases h with ⟨-, q⟩ | ⟨q, -⟩
  · simp at q; exact q
  · omega
theorem gI_step {n x y : Nat} (h : gI (n + 1) x y) (hy : 0 < y) : gI n y (x % y) := by
  have hm := Nat.mod_lt x hy
  rcases h with ⟨h1, h2⟩ | ⟨h1, h2, h3⟩
  · refine Or.inr ⟨by omega, h2, hm⟩
  · refine Or.inl ⟨by omega, ?_⟩
    have e : (n + 1 + 1) / 2 = n / 2 + 1 := by omega
    rw [e, Nat.pow_succ] at h2
    have h4 := Nat.div_add_mod x y
    have h5 : y * 1 ≤ y * (x / y) := Nat.mul_le_mul_left y (Nat.div_pos (Nat.le_of_lt h3) hy)
    omega
theorem gcd_step (x y : Nat) : Nat.gcd x y = Nat.gcd y (x % y) := by rw [Nat.gcd_comm x y, Nat.gcd_rec y x, Nat.gcd_comm]

theorem C_gcd {E : f_E} {σ : f_Mem} {a b : Nat} (ha : a < 2147483648) (hb : b < 2147483648) : FZ E sC mX7_greatestDivisor 0 [.int (iI a), .int (iI b)] σ (Nat.gcd a b : Nat) (fun u => u = σ) := by
  refine FZ.intro rfl (Nat.le_of_ble_eq_true rfl) (L0 := [some (.int (iI a)), some (.int (iI b)), none, none, none, none]) rfl (fun G hR => ?_)
  refine g_iload_0 hR dX7_greatestDivisor_0 (g_istore_2 hR dX7_greatestDivisor_1 rfl (g_iload_1 hR dX7_greatestDivisor_2 (g_istore_3 hR dX7_greatestDivisor_3 rfl (g_iconst hR dX7_greatestDivisor_4 (g_istore_4 hR dX7_greatestDivisor_5 rfl ?_)))))
  have loop : ∀ (mm : Nat) (j x y : Nat), mm = 64 - j → j ≤ 64 → x < 2147483648 → y < 2147483648 → Nat.gcd a b = Nat.gcd x y → gI (64 - j) x y → ∀ x5 : Option Value, G 7 [some (.int (iI a)), some (.int (iI b)), some (.int (iI x)), some (.int (iI y)), some (.int (iI j)), x5] [] σ := by
    intro mm
    induction mm using Nat.strongRecOn with
    | ind mm ih =>
      intro j x y hm hj hx hy hg hs x5
      refine g_iload_4 hR dX7_greatestDivisor_7 (g_bipush hR dX7_greatestDivisor_9 (by decide) (g_icmp_ge hR 34 dX7_greatestDivisor_11 (by decide) (by omega) (by omega) (fun c11 => ?_) (fun c11 => ?_)))
      · skip
        refine g_iload_2 hR dX7_greatestDivisor_34 ?_
        exact g_iret hR dX7_greatestDivisor_35 rfl (by rw [hg, gI_zero hs (by omega), Nat.gcd_zero_right]) rfl
      · skip
        refine g_iload_3 hR dX7_greatestDivisor_14 (g_if_eq hR 34 dX7_greatestDivisor_15 (by decide) (by omega) (fun c15 => ?_) (fun c15 => ?_))
        · skip
          refine g_iload_2 hR dX7_greatestDivisor_34 ?_
          exact g_iret hR dX7_greatestDivisor_35 rfl (by rw [hg, show y = 0 from by omega, Nat.gcd_zero_right]) rfl
        · skip
          have hy0 : 0 < y := by omega
          have hml := Nat.mod_lt x hy0
          refine g_iload_2 hR dX7_greatestDivisor_18 (g_iload_3 hR dX7_greatestDivisor_19 (g_irem hR dX7_greatestDivisor_20 (by omega) (by omega) (g_istore_5 hR dX7_greatestDivisor_21 rfl (g_iload_3 hR dX7_greatestDivisor_23 (g_istore_2 hR dX7_greatestDivisor_24 rfl (g_iload_5 hR dX7_greatestDivisor_25 (g_istore_3 hR dX7_greatestDivisor_27 rfl (g_iinc_4 hR dX7_greatestDivisor_28 rfl (g_goto hR 7 dX7_greatestDivisor_31 (by decide) ?_)))))))))
          exact ih (64 - (j + 1)) (by omega) (j + 1) y (x % y) rfl (by omega) hy (by omega) (by rw [hg]; exact gcd_step x y) (gI_step (by rw [show 64 - (j + 1) + 1 = 64 - j from by omega]; exact hs) hy0) _
  exact loop 64 0 a b (by omega) (by omega) ha hb rfl (Or.inl ⟨by decide, by omega⟩) _

def passR (A : AS) : Nat → List Nat
  | 0 => (AM A).1
  | n + 1 => runR (AL A) (Lsort (AL A)) (Lfirst (AL A)) (Lrow (AL A)) (passR A n)
def passE (A : AS) (n : Nat) : Nat := enc6 (runD (AL A) (Lsort (AL A)) (Lfirst (AL A)) (Lrow (AL A)) (passR A n))
def rndC (A : AS) (p : Nat) : Bool := (List.range p).all (fun i => decide (passE A (20 + (p + i)) = passE A (20 + i)) && decide (passE A (20 + (2 * p + i)) = passE A (20 + i)))
def sp_round (A : AS) : Int := if (Lrow (AL A)).length = 0 then -4 else seekP (rndC A) 20 1
theorem passR_len (A : AS) (h : (Lrow (AL A)).length ≤ 10) : ∀ n, (passR A n).length ≤ (AM A).1.length + 10 * n
  | 0 => Nat.le_refl _
  | n + 1 => by
    have h1 := passR_len A h n
    have h2 := runR_len (AL A) (Lsort (AL A)) (Lfirst (AL A)) (Lrow (AL A)) (passR A n)
    simp only [passR]; omega
theorem passR_ok {A : AS} (ok : ASOK A) : ∀ n, WOK (AL A) (passR A n)
  | 0 => ok.w
  | n + 1 => runR_ok ok.L _ _ _ _ ok.L.2.2.1.2 (passR_ok ok n)
theorem enc6_lt : ∀ (l : List Nat) (a : Nat), (∀ d ∈ l, d < 6) → l.foldl (fun a d => 6 * a + d) a < (a + 1) * 6 ^ l.length
  | [], a, _ => by simp
  | x :: t, a, h => by
    have h1 := enc6_lt t (6 * a + x) (fun d hd => h d (List.mem_cons_of_mem _ hd))
    have h2 := h x List.mem_cons_self
    simp only [List.foldl_cons, List.length_cons]
    refine Nat.lt_of_lt_of_le h1 ?_
    rw [Nat.pow_succ, Nat.mul_comm (6 ^ t.length) 6, ← Nat.mul_assoc]
    exact Nat.mul_le_mul_right _ (by omega)
theorem runD_mem {L : Les} {s f : Nat} (hf : f < 6) : ∀ (row r : List Nat), ∀ d ∈ runD L s f row r, d < 6
  | [], r, d, h => absurd h List.not_mem_nil
  | k :: t, r, d, h => by
    rcases List.mem_cons.mp (show d ∈ does L s f k r :: runD L s f t (dayR L s f k r) from h) with q | q
    · rw [q]; exact does_lt L s hf k r
    · exact runD_mem hf t _ d q
theorem passE_lt {A : AS} (ok : ASOK A) (n : Nat) : passE A n < 60466176 := by
  have h := enc6_lt _ 0 (runD_mem (L := AL A) (s := Lsort (AL A)) ok.L.f (Lrow (AL A)) (passR A n))
  have hl := ok.L.rl
  rw [runD_len] at h
  have h2 : 6 ^ (Lrow (AL A)).length ≤ 6 ^ 10 := Nat.pow_le_pow_right (by omega) hl
  unfold passE enc6
  have h3 : (6 : Nat) ^ 10 = 60466176 := by decide
  omega
def tmL (A : AS) (n : Nat) : List Nat := (List.range (n - 20)).map (fun i => passE A (20 + i))
theorem tmL_get (A : AS) {i : Nat} (h : i < 60) : (tmL A 80).getD i 0 = passE A (20 + i) := by
  unfold tmL
  simp [List.getD, List.getElem?_map, List.getElem?_range, h]
theorem tmL_succ (A : AS) {n : Nat} (h : 20 ≤ n) : tmL A (n + 1) = tmL A n ++ [passE A n] := by
  unfold tmL
  rw [show n + 1 - 20 = (n - 20) + 1 from by omega, List.range_succ, List.map_append]
  simp only [List.map_cons, List.map_nil]
  rw [show 20 + (n - 20) = n from by omega]
theorem tmL_zero (A : AS) {n : Nat} (h : n < 20) : tmL A (n + 1) = tmL A n := by
  unfold tmL
  rw [show n + 1 - 20 = 0 from by omega, show n - 20 = 0 from by omega]

theorem C_fillTimes {E : f_E} {σ : f_Mem} {A : AS} (h : InvC σ A) (ok : ASOK A) (hN : Lrn σ 97 (some 102) (Lsort (AL A)) (Lfirst (AL A)) (AM A).1) : FV E sC mX7_fillTimes 7 [.ref (f_ad E 0), .ref (f_ad E 97)] σ (fun u => InvC u A ∧ Num u 93 60 (tmL A 80)) := by
  refine FV.intro rfl (Nat.le_of_ble_eq_true rfl) (L0 := [some (.ref (f_ad E 0)), some (.ref (f_ad E 97)), none, none]) rfl (fun G hR => ?_)
  obtain ⟨lt0, hlt0⟩ := h.s.2.2.1
  refine g_aload_0 hR dX7_fillTimes_0 (g_getR hR dX7_fillTimes_1 flX7_57 (by decide) rfl rfl (g_callV0V hR dX7_fillTimes_4 mlX7_102 sh_times.lt sh_times.obj rfl (Cn_clear hlt0) (by decide) (Nat.le_of_ble_eq_true rfl) (fun u1 hu1 => ?_)))
  have hI1 := h.tm hu1.2 ⟨_, hu1.1⟩
  have hN1 := hN.fr hu1.2 (by omega)
  refine g_iconst hR dX7_fillTimes_7 (g_istore_2 hR dX7_fillTimes_8 rfl ?_)
  have loop : ∀ (mm : Nat) (j : Nat) (u : f_Mem), mm = 80 - j → j ≤ 80 → InvC u A → Lrn u 97 (some 102) (Lsort (AL A)) (Lfirst (AL A)) (passR A j) → Num u 93 60 (tmL A j) → ∀ x3 : Option Value, G 9 [some (.ref (f_ad E 0)), some (.ref (f_ad E 97)), some (.int (iI j)), x3] [] u := by
    intro mm
    induction mm using Nat.strongRecOn with
    | ind mm ih =>
      intro j u hm hj hI hN ht x3
      have hpl := passR_len A ok.L.rl j
      have hwl := ok.wl
      refine g_iload_2 hR dX7_fillTimes_9 (g_bipush hR dX7_fillTimes_10 (by decide) (g_icmp_ge hR 40 dX7_fillTimes_12 (by decide) (by omega) (by omega) (fun c12 => ?_) (fun c12 => ?_)))
      · skip
        have e : j = 80 := by omega
        subst e
        exact g_vret hR dX7_fillTimes_40 rfl ⟨hI, ht⟩
      · skip
        refine g_aload_1 hR dX7_fillTimes_15 (g_callV0Z hR dX7_fillTimes_16 mlX7_284 sh_lrn0.lt sh_lrn0.obj rfl (C_doings hN hI.L ok.L (passR_ok ok j) ok.L.s ok.L.f (by omega) (by omega)) (by decide) (Nat.le_of_ble_eq_true rfl) (fun u1 hu1 => ?_))
        have hI2 := hI.l0 hu1.2 hu1.1.x
        have ht2 := ht.fr hu1.2 (by omega)
        refine g_istore_3 hR dX7_fillTimes_19 rfl (g_iload_2 hR dX7_fillTimes_20 (g_bipush hR dX7_fillTimes_21 (by decide) (g_icmp_lt hR 34 dX7_fillTimes_23 (by decide) (by omega) (by omega) (fun c23 => ?_) (fun c23 => ?_))))
        · skip
          refine g_iinc_2 hR dX7_fillTimes_34 rfl (g_goto hR 9 dX7_fillTimes_37 (by decide) ?_)
          exact ih (80 - (j + 1)) (by omega) (j + 1) u1 rfl (by omega) hI2 hu1.1 (by rw [tmL_zero A (by omega)]; exact ht2) _
        · skip
          refine g_aload_0 hR dX7_fillTimes_26 (g_getR hR dX7_fillTimes_27 flX7_57 (by decide) rfl rfl (g_iload_3 hR dX7_fillTimes_30 (g_callV1V hR dX7_fillTimes_31 mlX7_93 sh_times.lt sh_times.obj rfl (Cn_add ht2 (v := passE A j) (by unfold tmL; simp; omega)) (by decide) (Nat.le_of_ble_eq_true rfl) (fun u2 hu2 => ?_))))
          have hI3 := hI2.tm hu2.2 ⟨_, hu2.1⟩
          have hN3 := hu1.1.fr hu2.2 (by omega)
          refine g_iinc_2 hR dX7_fillTimes_34 rfl (g_goto hR 9 dX7_fillTimes_37 (by decide) ?_)
          exact ih (80 - (j + 1)) (by omega) (j + 1) u2 rfl (by omega) hI3 hN3 (by rw [tmL_succ A (by omega)]; exact hu2.1) _
  exact loop 80 0 u1 (by omega) (by omega) hI1 hN1 hu1.1 _
theorem C_comes {E : f_E} {σ : f_Mem} {A : AS} (h : InvC σ A) (ok : ASOK A) (ht : Num σ 93 60 (tmL A 80)) {p : Nat} (hp : p ≤ 20) : FZ E sC mX7_comesRoundAfter 1 [.ref (f_ad E 0), .int (iI p)] σ (if rndC A p = true then 1 else 0) (fun u => u = σ) := by
  refine FZ.intro rfl (Nat.le_of_ble_eq_true rfl) (L0 := [some (.ref (f_ad E 0)), some (.int (iI p)), none, none]) rfl (fun G hR => ?_)
  refine g_iconst hR dX7_comesRoundAfter_0 (g_istore_2 hR dX7_comesRoundAfter_1 rfl ?_)
  have loop : ∀ (mm : Nat) (j : Nat), mm = p - j → j ≤ p → (∀ i, i < j → passE A (20 + (p + i)) = passE A (20 + i) ∧ passE A (20 + (2 * p + i)) = passE A (20 + i)) → ∀ x3 : Option Value, G 2 [some (.ref (f_ad E 0)), some (.int (iI p)), some (.int (iI j)), x3] [] σ := by
    intro mm
    induction mm using Nat.strongRecOn with
    | ind mm ih =>
      intro j hm hj hs x3
      refine g_iload_2 hR dX7_comesRoundAfter_2 (g_iload_1 hR dX7_comesRoundAfter_3 (g_icmp_ge hR 54 dX7_comesRoundAfter_4 (by decide) (by omega) (by omega) (fun c4 => ?_) (fun c4 => ?_)))
      · skip
        refine g_iconst hR dX7_comesRoundAfter_54 ?_
        exact g_zret hR dX7_comesRoundAfter_55 rfl (Or.inr rfl) (by rw [if_pos (show rndC A p = true from List.all_eq_true.mpr (fun i hi => by have := hs i (by have := List.mem_range.mp hi; omega); simp only [Bool.and_eq_true, decide_eq_true_eq]; exact this))]) rfl
      · skip
        have q1 := passE_lt ok (20 + j)
        have q2 := passE_lt ok (20 + (p + j))
        have q3 := passE_lt ok (20 + (2 * p + j))
        refine g_aload_0 hR dX7_comesRoundAfter_7 (g_getR hR dX7_comesRoundAfter_8 flX7_57 (by decide) rfl rfl (g_iload_2 hR dX7_comesRoundAfter_11 (g_callV1P hR dX7_comesRoundAfter_12 mlX7_128 sh_times.lt sh_times.obj rfl (tmL_get A (i := j) (by omega) ▸ Cn_at ht (i := j) (by omega)) (by decide) (Nat.le_of_ble_eq_true rfl) (g_istore_3 hR dX7_comesRoundAfter_15 rfl (g_aload_0 hR dX7_comesRoundAfter_16 (g_getR hR dX7_comesRoundAfter_17 flX7_57 (by decide) rfl rfl (g_iload_1 hR dX7_comesRoundAfter_20 (g_iload_2 hR dX7_comesRoundAfter_21 (g_iadd hR dX7_comesRoundAfter_22 (g_callV1P hR dX7_comesRoundAfter_23 mlX7_128 sh_times.lt sh_times.obj rfl (tmL_get A (i := p + j) (by omega) ▸ Cn_at ht (i := p + j) (by omega)) (by decide) (Nat.le_of_ble_eq_true rfl) (g_iload_3 hR dX7_comesRoundAfter_26 (g_icmp_ne hR 46 dX7_comesRoundAfter_27 (by decide) (by omega) (by omega) (fun c27 => ?_) (fun c27 => ?_)))))))))))))
        · skip
          refine g_iconst hR dX7_comesRoundAfter_46 ?_
          exact g_zret hR dX7_comesRoundAfter_47 rfl (Or.inl rfl) (by rw [if_neg (fun q => by have := List.all_eq_true.mp q j (List.mem_range.mpr (by omega)); simp only [Bool.and_eq_true, decide_eq_true_eq] at this; omega)]) rfl
        · skip
          refine g_aload_0 hR dX7_comesRoundAfter_30 (g_getR hR dX7_comesRoundAfter_31 flX7_57 (by decide) rfl rfl (g_iconst hR dX7_comesRoundAfter_34 (g_iload_1 hR dX7_comesRoundAfter_35 (g_imul hR dX7_comesRoundAfter_36 (g_iload_2 hR dX7_comesRoundAfter_37 (g_iadd hR dX7_comesRoundAfter_38 (g_callV1P hR dX7_comesRoundAfter_39 mlX7_128 sh_times.lt sh_times.obj rfl (tmL_get A (i := 2 * p + j) (by omega) ▸ Cn_at ht (i := 2 * p + j) (by omega)) (by decide) (Nat.le_of_ble_eq_true rfl) (g_iload_3 hR dX7_comesRoundAfter_42 (g_icmp_eq hR 48 dX7_comesRoundAfter_43 (by decide) (by omega) (by omega) (fun c43 => ?_) (fun c43 => ?_))))))))))
          · skip
            refine g_iinc_2 hR dX7_comesRoundAfter_48 rfl (g_goto hR 2 dX7_comesRoundAfter_51 (by decide) ?_)
            exact ih (p - (j + 1)) (by omega) (j + 1) rfl (by omega) (fun i hi => by
              by_cases q : i < j
              · exact hs i q
              · rw [show i = j from by omega]; omega) _
          · skip
            refine g_iconst hR dX7_comesRoundAfter_46 ?_
            exact g_zret hR dX7_comesRoundAfter_47 rfl (Or.inl rfl) (by rw [if_neg (fun q => by have := List.all_eq_true.mp q j (List.mem_range.mpr (by omega)); simp only [Bool.and_eq_true, decide_eq_true_eq] at this; omega)]) rfl
  exact loop p 0 (by omega) (by omega) (fun i hi => by omega) _
theorem K_round {E : f_E} {σ : f_Mem} {A : AS} (h : InvC σ A) (ok : ASOK A) : FZ E sC mX7_round 12 [.ref (f_ad E 0)] σ (sp_round A) (fun u => InvC u A) := by
  have hrl := ok.L.rl
  refine FZ.intro rfl (Nat.le_of_ble_eq_true rfl) (L0 := [some (.ref (f_ad E 0)), none]) rfl (fun G hR => ?_)
  refine g_aload_0 hR dX7_round_0 (g_getR hR dX7_round_1 flX7_34 (by decide) rfl rfl (g_getR hR dX7_round_4 flX7_147 sh_laid.lt sh_laid.obj rfl (g_callV0P hR dX7_round_7 mlX7_113 sh_laid.row.lt sh_laid.row.obj rfl (Cn_size h.L.row) (by decide) (Nat.le_of_ble_eq_true rfl) (g_if_ne hR 16 dX7_round_10 (by decide) (by omega) (fun c10 => ?_) (fun c10 => ?_)))))
  · skip
    refine g_aload_0 hR dX7_round_16 (g_aload_0 hR dX7_round_17 (g_aload_0 hR dX7_round_18 (g_getR hR dX7_round_19 flX7_34 (by decide) rfl rfl (g_getI hR _ dX7_round_22 flX7_167 sh_laid.lt sh_laid.obj rfl h.L.sort (g_callV1R hR dX7_round_25 mlX7_160 (by decide) rfl rfl (C_learnerNow h ok ok.L.s) (by decide) (Nat.le_of_ble_eq_true rfl) (fun u1 hu1 => ?_))))))
    have hI1 := h.l0 hu1.2 hu1.1.x
    refine g_callV1V hR dX7_round_28 mlX7_201 (by decide) rfl rfl (C_fillTimes hI1 ok hu1.1) (by decide) (Nat.le_of_ble_eq_true rfl) (fun u2 hu2 => ?_)
    obtain ⟨hI2, ht2⟩ := hu2
    refine g_iconst hR dX7_round_31 (g_istore_1 hR dX7_round_32 rfl ?_)
    have loop : ∀ (mm : Nat) (j : Nat), mm = 21 - j → 1 ≤ j → j ≤ 21 → seekP (rndC A) 20 1 = seekP (rndC A) (21 - j) j → G 33 [some (.ref (f_ad E 0)), some (.int (iI j))] [] u2 := by
      intro mm
      induction mm using Nat.strongRecOn with
      | ind mm ih =>
        intro j hm hj hj2 hs
        refine g_iload_1 hR dX7_round_33 (g_bipush hR dX7_round_34 (by decide) (g_icmp_gt hR 55 dX7_round_36 (by decide) (by omega) (by omega) (fun c36 => ?_) (fun c36 => ?_)))
        · skip
          refine g_bipush hR dX7_round_55 (by decide) ?_
          rw [show 21 - j = 0 from by omega] at hs
          exact g_iret hR dX7_round_57 rfl (by unfold sp_round; rw [if_neg (by omega), hs]; rfl) hI2
        · skip
          refine g_aload_0 hR dX7_round_39 (g_iload_1 hR dX7_round_40 (g_callV1P hR dX7_round_41 mlX7_205 (by decide) rfl rfl (C_comes hI2 ok ht2 (p := j) (by omega)) (by decide) (Nat.le_of_ble_eq_true rfl) (g_if_eq hR 49 dX7_round_44 (by decide) (by split <;> omega) (fun c44 => ?_) (fun c44 => ?_))))
          · skip
            refine g_iinc_1 hR dX7_round_49 rfl (g_goto hR 33 dX7_round_52 (by decide) ?_)
            rw [seekP_no (by omega) (ifB c44), show 21 - j - 1 = 21 - (j + 1) from by omega] at hs
            exact ih (21 - (j + 1)) (by omega) (j + 1) rfl (by omega) (by omega) hs
          · skip
            refine g_iload_1 hR dX7_round_47 ?_
            rw [seekP_yes (by omega) (ifB1 c44)] at hs
            exact g_iret hR dX7_round_48 rfl (by unfold sp_round; rw [if_neg (by omega), hs]) hI2
    exact loop 20 1 rfl (by omega) (by omega) rfl
  · skip
    refine g_bipush hR dX7_round_13 (by decide) ?_
    exact g_iret hR dX7_round_15 rfl (by unfold sp_round; rw [if_pos (by omega)]) h
