
theorem sumN_add (g : Nat → Nat) (m : Nat) : ∀ n, sumN g (m + n) = sumN g m + sumN (fun i => g (m + i)) n
  | 0 => rfl
  | n + 1 => by
    show sumN g (m + n) + g (m + n) = sumN g m + (sumN (fun i => g (m + i)) n + g (m + n))
    rw [sumN_add g m n]; omega
theorem sumN_ext {g h : Nat → Nat} : ∀ n, (∀ i, i < n → g i = h i) → sumN g n = sumN h n
  | 0, _ => rfl
  | n + 1, e => by
    show sumN g n + g n = sumN h n + h n
    rw [sumN_ext n (fun i hi => e i (by omega)), e n (by omega)]
theorem sumN_pl (g h : Nat → Nat) : ∀ n, sumN (fun i => g i + h i) n = sumN g n + sumN h n
  | 0 => rfl
  | n + 1 => by
    show sumN (fun i => g i + h i) n + (g n + h n) = sumN g n + g n + (sumN h n + h n)
    rw [sumN_pl g h n]; omega
theorem sumN_ml (c : Nat) (g : Nat → Nat) : ∀ n, sumN (fun i => c * g i) n = c * sumN g n
  | 0 => by simp [sumN]
  | n + 1 => by
    show sumN (fun i => c * g i) n + c * g n = c * (sumN g n + g n)
    rw [sumN_ml c g n, Nat.mul_add]
theorem sumN_blk (g : Nat → Nat) (K : Nat) : ∀ V, sumN g (K * V) = sumN (fun v => sumN (fun k => g (K * v + k)) K) V
  | 0 => rfl
  | V + 1 => by
    rw [Nat.mul_succ, sumN_add, sumN_blk g K V]
    rfl
theorem sumN_zero : ∀ n, sumN (fun _ => 0) n = 0
  | 0 => rfl
  | n + 1 => by show sumN (fun _ => 0) n + 0 = 0; rw [sumN_zero n]
theorem sumN_swap (h : Nat → Nat → Nat) (K : Nat) : ∀ V, sumN (fun v => sumN (fun k => h v k) K) V = sumN (fun k => sumN (fun v => h v k) V) K
  | 0 => (sumN_zero K).symm
  | V + 1 => by
    show sumN (fun v => sumN (fun k => h v k) K) V + sumN (fun k => h V k) K = sumN (fun k => sumN (fun v => h v k) V + h V k) K
    rw [sumN_swap h K V, sumN_pl]
/-- a way in which n days can come: its chance, what is lost -/
def wyC (L : Les) : Nat → Nat → Nat
  | 0, _ => 1
  | n + 1, w => (Lc L).getD (w % (Lm L).length) 0 * wyC L n (w / (Lm L).length)
def wyL (L : Les) (s f : Nat) : Nat → Nat → List Nat → Nat
  | 0, _, _ => 0
  | n + 1, w, r => lo L (w % (Lm L).length) (does L s f (w % (Lm L).length) r) + wyL L s f n (w / (Lm L).length) (dayR L s f (w % (Lm L).length) r)
theorem wyC_sum {L : Les} (ok : LesOK L) : ∀ n, sumN (wyC L n) ((Lm L).length ^ n) = allC L ^ n
  | 0 => rfl
  | n + 1 => by
    have h3 := ok.1.2.2.2.2
    by_cases hK : (Lm L).length = 0
    · have e : allC L = 0 := by unfold allC; rw [List.length_eq_zero_iff.mp (h3.trans hK)]; rfl
      rw [hK, e, Nat.zero_pow (show 0 < n + 1 from by omega)]; rfl
    rw [Nat.pow_succ, Nat.mul_comm, sumN_blk]
    have e : ∀ v, sumN (fun k => wyC L (n + 1) ((Lm L).length * v + k)) (Lm L).length = allC L * wyC L n v := fun v => by
      rw [sumN_ext (h := fun k => wyC L n v * (Lc L).getD k 0) _ (fun k hk => by
        show (Lc L).getD (((Lm L).length * v + k) % (Lm L).length) 0 * wyC L n (((Lm L).length * v + k) / (Lm L).length) = _
        rw [Nat.mul_add_mod, Nat.mod_eq_of_lt hk, Nat.mul_add_div (by omega), Nat.div_eq_of_lt hk, Nat.add_zero, Nat.mul_comm])]
      rw [sumN_ml, sumN_get _ _ (by omega), ← h3, List.take_length, Nat.mul_comm]
      rfl
    rw [show (fun v => sumN (fun k => wyC L (n + 1) ((Lm L).length * v + k)) (Lm L).length) = fun v => allC L * wyC L n v from funext e, sumN_ml, wyC_sum ok n, Nat.pow_succ, Nat.mul_comm]
theorem wy_sum {L : Les} (ok : LesOK L) (s f : Nat) : ∀ n r, sumN (fun w => wyC L n w * wyL L s f n w r) ((Lm L).length ^ n) = mnS L s f n r
  | 0, r => rfl
  | n + 1, r => by
    by_cases hK : (Lm L).length = 0
    · rw [hK, Nat.zero_pow (by omega)]
      show 0 = sumN (mnG L s f (mnS L s f n) (allC L ^ n) r) (Lm L).length
      rw [hK]; rfl
    rw [Nat.pow_succ, Nat.mul_comm, sumN_blk, sumN_swap]
    show _ = sumN (mnG L s f (mnS L s f n) (allC L ^ n) r) (Lm L).length
    refine sumN_ext _ (fun k hk => ?_)
    rw [sumN_ext (h := fun v => (Lc L).getD k 0 * (lo L k (does L s f k r) * wyC L n v + wyC L n v * wyL L s f n v (dayR L s f k r))) _ (fun v _ => by
      show ((Lc L).getD (((Lm L).length * v + k) % (Lm L).length) 0 * wyC L n (((Lm L).length * v + k) / (Lm L).length)) * (lo L (((Lm L).length * v + k) % (Lm L).length) (does L s f (((Lm L).length * v + k) % (Lm L).length) r) + wyL L s f n (((Lm L).length * v + k) / (Lm L).length) (dayR L s f (((Lm L).length * v + k) % (Lm L).length) r)) = _
      rw [Nat.mul_add_mod, Nat.mod_eq_of_lt hk, Nat.mul_add_div (by omega), Nat.div_eq_of_lt hk, Nat.add_zero, Nat.mul_assoc, Nat.mul_add, Nat.mul_comm (wyC L n v) (lo L k (does L s f k r))])]
    rw [sumN_ml, sumN_pl, sumN_ml, wyC_sum ok n, wy_sum ok s f n]
    rfl
theorem wyL_le {L : Les} (ok : LesOK L) (s f : Nat) : ∀ n w r, wyL L s f n w r ≤ 20 * n
  | 0, _, _ => Nat.zero_le _
  | n + 1, w, r => by
    have h1 := lo_le ok (w % (Lm L).length) (does L s f (w % (Lm L).length) r)
    have h2 := wyL_le ok s f n (w / (Lm L).length) (dayR L s f (w % (Lm L).length) r)
    simp only [wyL]; omega
/-- the state after d of the days -/
def wyU (L : Les) (s f : Nat) : Nat → Nat → Mms → Mms
  | 0, _, M => M
  | n + 1, w, M => wyU L s f n (w / (Lm L).length) (dayU L s f (w % (Lm L).length) M)
theorem LesOK.ch {L : Les} (h : LesOK L) (k : Nat) : (Lc L).getD k 0 ≤ 9 := by
  by_cases q : k < (Lc L).length
  · exact (h.2.1.2.2.2.2 _ (getD_mem q)).2
  · rw [getD_out (by omega)]; omega
theorem dayU_l (L : Les) (s f k : Nat) (M : Mms) : (dayU L s f k M).2.2.2.1 = M.2.2.2.1 + lo L k (does L s f k M.1) := rfl

theorem C8_common {E : f_E} {σ : f_Mem} {a b : Nat} (ha : a < 9223372036854775808) (hb : b < 9223372036854775808) : FL E sM mX8_common 0 [.long (lL a), .long (lL b)] σ (Nat.gcd a b : Nat) (fun u => u = σ) := by
  refine FL.intro rfl (Nat.le_of_ble_eq_true rfl) (L0 := [some (.long (lL a)), none, some (.long (lL b)), none, none, none, none, none, none, none]) rfl (fun G hR => ?_)
  refine g_lload_0 hR dX8_common_0 (g_lstore_4 hR dX8_common_1 rfl (g_lload_2 hR dX8_common_3 (g_lstore_6 hR dX8_common_4 rfl ?_)))
  have loop : ∀ (mm : Nat) (y : Nat) (x : Nat) (x8 : Option Value), mm = y → x < 9223372036854775808 → y < 9223372036854775808 → Nat.gcd x y = Nat.gcd a b → G 6 [some (.long (lL a)), none, some (.long (lL b)), none, some (.long (lL x)), none, some (.long (lL y)), none, x8, none] [] σ := by
    intro mm
    induction mm using Nat.strongRecOn with
    | ind mm ih =>
      intro y x x8 hm hx hy hg
      refine g_lload_6 hR dX8_common_6 (g_lconst hR 0 dX8_common_8 (by decide) (g_lcmp hR dX8_common_9 (by omega) (by omega) (g_if_eq hR 31 dX8_common_10 (by decide) (by unfold cmpI; split <;> (try split) <;> omega) (fun zc10 => ?_) (fun zc10 => ?_))))
      · skip
        have hy0 : y = 0 := by unfold cmpI at zc10; split at zc10 <;> (try split at zc10) <;> omega
        refine g_lload_4 hR dX8_common_31 ?_
        exact g_lret hR dX8_common_33 rfl (by rw [← hg, hy0, Nat.gcd_zero_right]) rfl
      · skip
        have hy0 : 0 < y := by unfold cmpI at zc10; split at zc10 <;> (try split at zc10) <;> omega
        refine g_lload_4 hR dX8_common_13 (g_lload_6 hR dX8_common_15 (g_lrem hR dX8_common_17 (by omega) (by omega) (g_lstore_8 hR dX8_common_18 rfl (g_lload_6 hR dX8_common_20 (g_lstore_4 hR dX8_common_22 rfl (g_lload_8 hR dX8_common_24 (g_lstore_6 hR dX8_common_26 rfl (g_goto hR 6 dX8_common_28 (by decide) ?_))))))))
        exact ih (x % y) (by have := Nat.mod_lt x hy0; omega) (x % y) y _ rfl hy (by have := Nat.mod_lt x hy0; omega) (by rw [← gcd_step]; exact hg)
  exact loop b b a _ rfl ha hb rfl
theorem M_mean {E : f_E} {σ : f_Mem} {A : AS} (h : InvM σ A) (ok : ASOK A) {n p : Int} (hn : -2147483648 ≤ n ∧ n < 2147483648) (hp : -2147483648 ≤ p ∧ p < 2147483648) : FZ E sM mX8_mean 12 [.ref (f_ad E 0), .int (iI n), .int (iI p)] σ (sp_mean A n p) (fun u => InvM u A) := by
  have hK1 := ok.K1
  have hK6 := ok.K6
  have hkk : AK A = (Lm (AL A)).length := rfl
  have hrl := ok.L.rl
  have hwl := ok.wl
  have hwo := ok.w
  have h6h := ok.M.2.2
  have hf6 := ok.L.f
  have hs4 := ok.L.s
  have hK6' : (Lm (AL A)).length ≤ 6 := ok.L.k
  refine FZ.intro rfl (Nat.le_of_ble_eq_true rfl) (L0 := [some (.ref (f_ad E 0)), some (.int (iI n)), some (.int (iI p)), none, none, none, none, none, none, none, none, none, none, none]) rfl (fun G hR => ?_)
  refine g_iload_1 hR dX8_mean_0 (g_i2l hR dX8_mean_1 (by omega) (g_lconst hR 0 dX8_mean_2 (by decide) (g_ldc2 hR (3) dX8_mean_3 kcX8_180 (by decide) (g_callS3P hR dX8_mean_6 mlX8_78 (C8_in (by omega) (by omega) (by omega)) (by decide) (Nat.le_of_ble_eq_true rfl) (g_if_eq hR 22 dX8_mean_9 (by decide) (by split <;> omega) (fun zc9 => ?_) (fun zc9 => ?_))))))
  · skip
    refine g_iconst hR dX8_mean_22 ?_
    exact g_iret hR dX8_mean_23 rfl (by unfold sp_mean; rw [if_neg (by omega)]; skip) h
  · skip
    refine g_iload_2 hR dX8_mean_12 (g_i2l hR dX8_mean_13 (by omega) (g_lconst hR 0 dX8_mean_14 (by decide) (g_lconst hR 1 dX8_mean_15 (by decide) (g_callS3P hR dX8_mean_16 mlX8_78 (C8_in (by omega) (by omega) (by omega)) (by decide) (Nat.le_of_ble_eq_true rfl) (g_if_ne hR 24 dX8_mean_19 (by decide) (by split <;> omega) (fun zc19 => ?_) (fun zc19 => ?_))))))
    · skip
      obtain ⟨nq, rfl⟩ : ∃ nq : Nat, n = nq := ⟨n.toNat, by omega⟩
      obtain ⟨p0, rfl⟩ : ∃ p0 : Nat, p = p0 := ⟨p.toNat, by omega⟩
      have hall := allC_le ok.L
      have hal1 := allC_pos ok.L hK1
      have hKn : (Lm (AL A)).length ^ nq ≤ 216 := Nat.le_trans (Nat.pow_le_pow_left hK6' nq) (Nat.pow_le_pow_right (by omega) (show nq ≤ 3 from by omega))
      have han : allC (AL A) ^ nq ≤ 157464 := Nat.le_trans (Nat.pow_le_pow_left hall nq) (Nat.pow_le_pow_right (by omega) (show nq ≤ 3 from by omega))
      have han1 : 0 < allC (AL A) ^ nq := Nat.pow_pos (by omega)
      have hms := mnS_le ok.L (Lsort (AL A)) (Lfirst (AL A)) nq (AM A).1
      have hms2 := Nat.mul_le_mul (show 20 * nq ≤ 60 from by omega) han
      have hsb : mnS (AL A) (Lsort (AL A)) (Lfirst (AL A)) nq (AM A).1 < 9223372036854775808 := by omega
      have hab : allC (AL A) ^ nq < 9223372036854775808 := by omega
      have hg1 := Nat.gcd_pos_of_pos_right (mnS (AL A) (Lsort (AL A)) (Lfirst (AL A)) nq (AM A).1) han1
      have hg2 := Nat.gcd_le_right (m := mnS (AL A) (Lsort (AL A)) (Lfirst (AL A)) nq (AM A).1) (n := allC (AL A) ^ nq) han1
      refine g_iconst hR dX8_mean_24 (g_istore_3 hR dX8_mean_25 rfl (g_iconst hR dX8_mean_26 (g_istore_4 hR dX8_mean_27 rfl ?_)))
      have loop : ∀ (mm : Nat) (j : Nat), mm = (Lm (AL A)).length - j → j ≤ (Lm (AL A)).length → ∀ x5 x6 x7 x8 x9 x10 x11 x12 x13 : Option Value, G 29 [some (.ref (f_ad E 0)), some (.int (iI nq)), some (.int (iI p0)), some (.int (iI (((Lc (AL A)).take j).sum : Nat))), some (.int (iI j)), x5, x6, x7, x8, x9, x10, x11, x12, x13] [] σ := by
        intro mm
        induction mm using Nat.strongRecOn with
        | ind mm ih =>
          intro j hm hj x5 x6 x7 x8 x9 x10 x11 x12 x13
          refine g_iload_4 hR dX8_mean_29 (g_aload_0 hR dX8_mean_31 (g_getI hR _ dX8_mean_32 flX8_75 (by decide) rfl rfl h.hd.1 (g_icmp_ge hR 58 dX8_mean_35 (by decide) (by omega) (by omega) (fun zc35 => ?_) (fun zc35 => ?_))))
          · skip
            rw [show j = (Lc (AL A)).length from by rw [ok.L.1.2.2.2.2]; omega, List.take_length]
            rw [show ((Lc (AL A)).sum : Nat) = allC (AL A) from rfl]
            refine g_iconst hR dX8_mean_58 (g_istore_4 hR dX8_mean_59 rfl (g_lconst hR 1 dX8_mean_61 (by decide) (g_lstore_5 hR dX8_mean_62 rfl (g_iconst hR dX8_mean_64 (g_istore_7 hR dX8_mean_65 rfl ?_)))))
            have loop2 : ∀ (mm2 : Nat) (j : Nat), mm2 = nq - j → j ≤ nq → ∀ x8 x9 x10 x11 x12 x13 : Option Value, G 67 [some (.ref (f_ad E 0)), some (.int (iI nq)), some (.int (iI p0)), some (.int (iI (allC (AL A) : Nat))), some (.int (iI ((Lm (AL A)).length ^ j : Nat))), some (.long (lL (allC (AL A) ^ j : Nat))), none, some (.int (iI j)), x8, x9, x10, x11, x12, x13] [] σ := by
              intro mm2
              induction mm2 using Nat.strongRecOn with
              | ind mm2 ih2 =>
                intro j hm2 hj x8 x9 x10 x11 x12 x13
                refine g_iload_7 hR dX8_mean_67 (g_iload_1 hR dX8_mean_69 (g_icmp_ge hR 95 dX8_mean_70 (by decide) (by omega) (by omega) (fun zc70 => ?_) (fun zc70 => ?_)))
                · skip
                  rw [show j = nq from by omega]
                  refine g_lconst hR 0 dX8_mean_95 (by decide) (g_lstore_7 hR dX8_mean_96 rfl (g_iconst hR dX8_mean_98 (g_istore_9 hR dX8_mean_99 rfl ?_)))
                  have loop3 : ∀ (mm3 : Nat) (row : Nat) (u : f_Mem), mm3 = (Lm (AL A)).length ^ nq - row → row ≤ (Lm (AL A)).length ^ nq → InvM u A → ∀ x10 x11 x12 x13 : Option Value, G 101 [some (.ref (f_ad E 0)), some (.int (iI nq)), some (.int (iI p0)), some (.int (iI (allC (AL A) : Nat))), some (.int (iI ((Lm (AL A)).length ^ nq : Nat))), some (.long (lL (allC (AL A) ^ nq : Nat))), none, some (.long (lL (sumN (fun w => wyC (AL A) nq w * wyL (AL A) (Lsort (AL A)) (Lfirst (AL A)) nq w (AM A).1) row : Nat))), none, some (.int (iI row)), x10, x11, x12, x13] [] u := by
                    intro mm3
                    induction mm3 using Nat.strongRecOn with
                    | ind mm3 ih3 =>
                      intro row u hm3 hrow hI x10 x11 x12 x13
                      refine g_iload_9 hR dX8_mean_101 (g_iload_4 hR dX8_mean_103 (g_icmp_ge hR 219 dX8_mean_105 (by decide) (by omega) (by omega) (fun zc105 => ?_) (fun zc105 => ?_)))
                      · skip
                        obtain rfl : row = (Lm (AL A)).length ^ nq := by omega
                        rw [wy_sum ok.L]
                        refine g_lload_7 hR dX8_mean_219 (g_lload_5 hR dX8_mean_221 (g_callS2L hR dX8_mean_223 mlX8_241 (C8_common hsb hab) (by decide) (Nat.le_of_ble_eq_true rfl) (fun zu3 hzu3 => ?_)))
                        subst hzu3
                        refine g_lstore_9 hR dX8_mean_226 rfl (g_iload_2 hR dX8_mean_228 (g_if_ne hR 240 dX8_mean_229 (by decide) (by omega) (fun zc229 => ?_) (fun zc229 => ?_)))
                        · skip
                          refine g_lload_5 hR dX8_mean_240 (g_lload_9 hR dX8_mean_242 (g_ldiv hR dX8_mean_244 (by omega) (by omega) (g_l2i hR dX8_mean_245 ?_)))
                          exact g_iret hR dX8_mean_246 rfl (by unfold sp_mean; rw [if_pos (by omega), if_neg (by omega)]; rfl) hI
                        · skip
                          refine g_lload_7 hR dX8_mean_232 (g_lload_9 hR dX8_mean_234 (g_ldiv hR dX8_mean_236 (by omega) (by omega) (g_goto hR 245 dX8_mean_237 (by decide) (g_l2i hR dX8_mean_245 ?_))))
                          exact g_iret hR dX8_mean_246 rfl (by unfold sp_mean; rw [if_pos (by omega), if_pos (by omega)]; rfl) hI
                      · skip
                        refine g_aload_0 hR dX8_mean_108 (g_callV0V hR dX8_mean_109 mlX8_188 (by decide) rfl rfl (C8_putAside) (by decide) (Nat.le_of_ble_eq_true rfl) (fun zu1 hzu1 => (g_lconst hR 1 dX8_mean_112 (by decide) (g_lstore_10 hR dX8_mean_113 rfl (g_iload_9 hR dX8_mean_115 (g_istore_12 hR dX8_mean_117 rfl (g_iconst hR dX8_mean_119 (g_istore_13 hR dX8_mean_120 rfl ?_))))))))
                        have loop4 : ∀ (mm4 : Nat) (d w : Nat) (c l : Nat) (M9 : Mms) (v : f_Mem), mm4 = nq - d → d ≤ nq → c * wyC (AL A) (nq - d) w = wyC (AL A) nq row → l + wyL (AL A) (Lsort (AL A)) (Lfirst (AL A)) (nq - d) w M9.1 = wyL (AL A) (Lsort (AL A)) (Lfirst (AL A)) nq row (AM A).1 → WOK (AL A) M9.1 → M9.2.1.length = 6 → M9.2.2.2.1 = (AM A).2.2.2.1 + l → w ≤ 216 → StM v 3 0 M9 → FrM [3] [17] zu1 v → G 122 [some (.ref (f_ad E 0)), some (.int (iI nq)), some (.int (iI p0)), some (.int (iI (allC (AL A) : Nat))), some (.int (iI ((Lm (AL A)).length ^ nq : Nat))), some (.long (lL (allC (AL A) ^ nq : Nat))), none, some (.long (lL (sumN (fun w => wyC (AL A) nq w * wyL (AL A) (Lsort (AL A)) (Lfirst (AL A)) nq w (AM A).1) row : Nat))), none, some (.int (iI row)), some (.long (lL (c : Nat))), none, some (.int (iI w)), some (.int (iI d))] [] v := by
                          intro mm4
                          induction mm4 using Nat.strongRecOn with
                          | ind mm4 ih4 =>
                            intro d w c l M9 v hm4 hd hc hl hM1 hM6 hMl hwb hS hG
                            have hwk : w % (Lm (AL A)).length < (Lm (AL A)).length := Nat.mod_lt _ (by omega)
                            have hwe : (w : Int) % ((Lm (AL A)).length : Nat) = ((w % (Lm (AL A)).length : Nat) : Int) := rfl
                            have hL1 := (hI.ls.fr (hzu1.2.1 1 (by decide) (by decide))).fr (hG.1 1 (by decide) (by decide))
                            have hw9 := ok.L.ch (w % (Lm (AL A)).length)
                            refine g_iload_13 hR dX8_mean_122 (g_iload_1 hR dX8_mean_124 (g_icmp_ge hR 185 dX8_mean_125 (by decide) (by omega) (by omega) (fun zc125 => ?_) (fun zc125 => ?_)))
                            · skip
                              refine g_lload_7 hR dX8_mean_185 (g_lload_10 hR dX8_mean_187 (g_aload_0 hR dX8_mean_189 (g_getR hR dX8_mean_190 flX8_16 (by decide) rfl rfl (g_bipush hR dX8_mean_193 (by decide) (g_aldU hR _ dX8_mean_195 (by decide) rfl (by decide) (by omega) hS.lost (by omega) (g_aload_0 hR dX8_mean_196 (g_getR hR dX8_mean_197 flX8_34 (by decide) rfl rfl (g_bipush hR dX8_mean_200 (by decide) (g_aldU hR _ dX8_mean_202 (by decide) rfl (by decide) (by omega) ((congrFun (hG.1 9 (by decide) (by decide)) (0 + 42)).trans ((hzu1.1 42 (by decide)).trans hI.st.lost)) (by omega) (g_isub hR dX8_mean_203 (g_i2l hR dX8_mean_204 (by have := wyL_le ok.L (Lsort (AL A)) (Lfirst (AL A)) nq row (AM A).1; omega) (g_lmul hR dX8_mean_205 (g_ladd hR dX8_mean_206 (g_lstore_7 hR dX8_mean_207 rfl (g_aload_0 hR dX8_mean_209 (g_callV0V hR dX8_mean_210 mlX8_194 (by decide) rfl rfl (C8_takeBack) (by decide) (Nat.le_of_ble_eq_true rfl) (fun zu2 hzu2 => ?_)))))))))))))))))
                              have ed : d = nq := by omega
                              rw [ed, Nat.sub_self] at hc hl
                              have hF2 : FrM [3, 9] [17] u zu2 := (hzu1.2.mono (by decide) (by decide)).tr ((hG.mono (by decide) (by decide)).tr (hzu2.2.mono (by decide) (by decide)))
                              have hI2 := hI.keep (hF2.mono (by decide) (by decide)) (hI.st.cp (fun i hi => (hzu2.1 i hi).trans ((congrFun (hG.1 9 (by decide) (by decide)) (0 + i)).trans (hzu1.1 i hi))))
                              have hc : c * 1 = _ := hc
                              have hl : l + 0 = _ := hl
                              rw [show (sumN (fun w => wyC (AL A) nq w * wyL (AL A) (Lsort (AL A)) (Lfirst (AL A)) nq w (AM A).1) row : Nat) + ((c : Nat) : Int) * (((M9.2.2.2.1 : Nat) : Int) - ((AM A).2.2.2.1 : Nat)) = ((sumN (fun w => wyC (AL A) nq w * wyL (AL A) (Lsort (AL A)) (Lfirst (AL A)) nq w (AM A).1) (row + 1) : Nat) : Int) from by
                                show _ = ((sumN (fun w => wyC (AL A) nq w * wyL (AL A) (Lsort (AL A)) (Lfirst (AL A)) nq w (AM A).1) row + wyC (AL A) nq row * wyL (AL A) (Lsort (AL A)) (Lfirst (AL A)) nq row (AM A).1 : Nat) : Int)
                                rw [hMl, ← hc, ← hl, castsub, Nat.mul_one, Nat.add_zero]; first | done | rfl]
                              refine g_iinc_9 hR dX8_mean_213 rfl (g_goto hR 101 dX8_mean_216 (by decide) ?_)
                              exact ih3 ((Lm (AL A)).length ^ nq - (row + 1)) (by omega) (row + 1) zu2 rfl (by omega) hI2 _ _ _ _
                            · skip
                              refine g_lload_10 hR dX8_mean_128 (g_aload_0 hR dX8_mean_130 (g_getR hR dX8_mean_131 flX8_7 (by decide) rfl rfl (g_iconst hR dX8_mean_134 (g_iload_12 hR dX8_mean_135 (g_aload_0 hR dX8_mean_137 (g_getI hR _ dX8_mean_138 flX8_75 (by decide) rfl rfl ((hG.2 1 (by decide)).trans ((hzu1.2.2 1 (by decide)).trans hI.hd.1)) (g_irem hR dX8_mean_141 (by omega) (by omega) (g_imul hR dX8_mean_142 (g_iconst hR dX8_mean_143 (g_iadd hR dX8_mean_144 (g_aldU hR _ dX8_mean_145 (by decide) rfl (by decide) (by omega) (hL1 (w % (Lm (AL A)).length) hwk).2.2.2.2 (by omega) (g_i2l hR dX8_mean_146 (by omega) (g_lmul hR dX8_mean_147 (g_lstore_10 hR dX8_mean_148 rfl (g_aload_0 hR dX8_mean_150 (g_aload_0 hR dX8_mean_151 (g_getI hR _ dX8_mean_152 flX8_136 (by decide) rfl rfl ((hG.2 2 (by decide)).trans ((hzu1.2.2 2 (by decide)).trans hI.hd.2.1)) (g_aload_0 hR dX8_mean_155 (g_getI hR _ dX8_mean_156 flX8_139 (by decide) rfl rfl ((hG.2 3 (by decide)).trans ((hzu1.2.2 3 (by decide)).trans hI.hd.2.2)) (g_iload_12 hR dX8_mean_159 (g_aload_0 hR dX8_mean_161 (g_getI hR _ dX8_mean_162 flX8_75 (by decide) rfl rfl ((hG.2 1 (by decide)).trans ((hzu1.2.2 1 (by decide)).trans hI.hd.1)) (g_irem hR dX8_mean_165 (by omega) (by omega) ?_)))))))))))))))))))))))
                              rw [hwe]
                              refine g_callV3Z hR dX8_mean_166 mlX8_185 (by decide) rfl rfl (C8_day (L := AL A) hS hL1 ok.L hM1 hM6 (k := w % (Lm (AL A)).length) hs4 hf6 hwk) (by decide) (Nat.le_of_ble_eq_true rfl) (fun zu2 hzu2 => (g_pop hR dX8_mean_169 rfl (g_iload_12 hR dX8_mean_170 (g_aload_0 hR dX8_mean_172 (g_getI hR _ dX8_mean_173 flX8_75 (by decide) rfl rfl ((hzu2.2.2.2 1 (by decide)).trans ((hG.2 1 (by decide)).trans ((hzu1.2.2 1 (by decide)).trans hI.hd.1))) (g_idiv hR dX8_mean_176 (by omega) (by omega) (g_istore_12 hR dX8_mean_177 rfl (g_iinc_13 hR dX8_mean_179 rfl (g_goto hR 122 dX8_mean_182 (by decide) ?_)))))))))
                              refine ih4 (nq - (d + 1)) (by omega) (d + 1) (w / (Lm (AL A)).length) (c * (Lc (AL A)).getD (w % (Lm (AL A)).length) 0) (l + lo (AL A) (w % (Lm (AL A)).length) (does (AL A) (Lsort (AL A)) (Lfirst (AL A)) (w % (Lm (AL A)).length) M9.1)) (dayU (AL A) (Lsort (AL A)) (Lfirst (AL A)) (w % (Lm (AL A)).length) M9) zu2 rfl (by omega) ?_ ?_ (dayR_ok ok.L hM1 hwk _ _) (List.length_set.trans hM6) (by rw [dayU_l, hMl]; omega) (Nat.le_trans (Nat.div_le_self _ _) hwb) hzu2.1 (hG.tr hzu2.2.2)
                              · rw [← hc, show nq - d = nq - (d + 1) + 1 from by omega]
                                show _ = c * ((Lc (AL A)).getD (w % (Lm (AL A)).length) 0 * wyC (AL A) (nq - (d + 1)) (w / (Lm (AL A)).length))
                                rw [Nat.mul_assoc]
                              · rw [← hl, show nq - d = nq - (d + 1) + 1 from by omega]
                                show _ = l + (lo (AL A) (w % (Lm (AL A)).length) (does (AL A) (Lsort (AL A)) (Lfirst (AL A)) (w % (Lm (AL A)).length) M9.1) + wyL (AL A) (Lsort (AL A)) (Lfirst (AL A)) (nq - (d + 1)) (w / (Lm (AL A)).length) (dayR (AL A) (Lsort (AL A)) (Lfirst (AL A)) (w % (Lm (AL A)).length) M9.1))
                                exact Nat.add_assoc _ _ _
                        exact loop4 nq 0 row 1 0 (AM A) zu1 (by omega) (by omega) (by rw [Nat.one_mul]; rfl) (by rw [Nat.zero_add]; rfl) hwo h6h rfl (by omega) (hI.st.fr (hzu1.2.1 3 (by decide) (by decide))) FrM.rf
                  exact loop3 ((Lm (AL A)).length ^ nq) 0 σ (by omega) (by omega) h _ _ _ _
                · skip
                  refine g_iload_4 hR dX8_mean_73 (g_aload_0 hR dX8_mean_75 (g_getI hR _ dX8_mean_76 flX8_75 (by decide) rfl rfl h.hd.1 (g_imul hR dX8_mean_79 (g_istore_4 hR dX8_mean_80 rfl (g_lload_5 hR dX8_mean_82 (g_iload_3 hR dX8_mean_84 (g_i2l hR dX8_mean_85 (by omega) (g_lmul hR dX8_mean_86 (g_lstore_5 hR dX8_mean_87 rfl (g_iinc_7 hR dX8_mean_89 rfl (g_goto hR 67 dX8_mean_92 (by decide) ?_)))))))))))
                  have h9 := ih2 (nq - (j + 1)) (by omega) (j + 1) rfl (by omega)
                  rw [Nat.pow_succ, Nat.pow_succ, Int.natCast_mul, Int.natCast_mul] at h9
                  exact h9 _ _ _ _ _ _
            exact loop2 nq 0 (by omega) (by omega) _ _ _ _ _ _
          · skip
            refine g_iload_3 hR dX8_mean_38 (g_aload_0 hR dX8_mean_39 (g_getR hR dX8_mean_40 flX8_7 (by decide) rfl rfl (g_iconst hR dX8_mean_43 (g_iload_4 hR dX8_mean_44 (g_imul hR dX8_mean_46 (g_iconst hR dX8_mean_47 (g_iadd hR dX8_mean_48 (g_aldU hR _ dX8_mean_49 (by decide) rfl (by decide) (by omega) (h.ls j (by omega)).2.2.2.2 (by omega) (g_iadd hR dX8_mean_50 (g_istore_3 hR dX8_mean_51 rfl (g_iinc_4 hR dX8_mean_52 rfl (g_goto hR 29 dX8_mean_55 (by decide) ?_))))))))))))
            have h9 := ih ((Lm (AL A)).length - (j + 1)) (by omega) (j + 1) rfl (by omega)
            rw [take_snoc (by have := ok.L.1.2.2.2.2; omega), sum_snoc] at h9
            exact h9 _ _ _ _ _ _ _ _ _
      exact loop (Lm (AL A)).length 0 (by omega) (by omega) _ _ _ _ _ _ _ _ _
    · skip
      refine g_iconst hR dX8_mean_22 ?_
      exact g_iret hR dX8_mean_23 rfl (by unfold sp_mean; rw [if_neg (by omega)]; skip) h
