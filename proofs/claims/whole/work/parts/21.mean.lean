
def sumN (g : Nat → Nat) : Nat → Nat
  | 0 => 0
  | n + 1 => sumN g n + g n
def mnG (L : Les) (s f : Nat) (m : List Nat → Nat) (a : Nat) (r : List Nat) (k : Nat) : Nat := (Lc L).getD k 0 * (lo L k (does L s f k r) * a + m (dayR L s f k r))
def mnS (L : Les) (s f : Nat) : Nat → List Nat → Nat
  | 0, _ => 0
  | n + 1, r => sumN (mnG L s f (mnS L s f n) (allC L ^ n) r) (Lm L).length
theorem sumN_mul {g c : Nat → Nat} {B : Nat} (h : ∀ k, g k ≤ c k * B) : ∀ n, sumN g n ≤ sumN c n * B
  | 0 => by simp [sumN]
  | n + 1 => by
    have h1 := sumN_mul h n
    have h2 := h n
    simp only [sumN, Nat.add_mul]; omega
theorem sumN_get (l : List Nat) : ∀ n, n ≤ l.length → sumN (fun k => l.getD k 0) n = (l.take n).sum
  | 0, _ => by simp [sumN]
  | n + 1, h => by
    rw [take_snoc (show n < l.length from h), sum_snoc, ← sumN_get l n (by omega)]
    rfl
theorem sum_le9 : ∀ l : List Nat, (∀ v ∈ l, v ≤ 9) → l.sum ≤ 9 * l.length
  | [], _ => by simp
  | x :: t, h => by
    have h1 := sum_le9 t (fun v hv => h v (List.mem_cons_of_mem _ hv))
    have h2 := h x List.mem_cons_self
    simp only [List.sum_cons, List.length_cons]; omega
theorem allC_le {L : Les} (ok : LesOK L) : allC L ≤ 54 := by
  have h1 := sum_le9 (Lc L) (fun v hv => (ok.2.1.2.2.2.2 v hv).2)
  have h2 := ok.1.1
  have h3 := ok.1.2.2.2.2
  unfold allC; omega
theorem sum_pos : ∀ l : List Nat, (∀ v ∈ l, 1 ≤ v) → l.length ≤ l.sum
  | [], _ => by simp
  | x :: t, h => by
    have h1 := sum_pos t (fun v hv => h v (List.mem_cons_of_mem _ hv))
    have h2 := h x List.mem_cons_self
    simp only [List.sum_cons, List.length_cons]; omega
theorem allC_pos {L : Les} (ok : LesOK L) (hk : 1 ≤ (Lm L).length) : 1 ≤ allC L := by
  have h1 := sum_pos (Lc L) (fun v hv => (ok.2.1.2.2.2.2 v hv).1)
  have h3 := ok.1.2.2.2.2
  unfold allC; omega
theorem mnS_le {L : Les} (ok : LesOK L) (s f : Nat) : ∀ n r, mnS L s f n r ≤ 20 * n * allC L ^ n
  | 0, r => by simp [mnS]
  | n + 1, r => by
    have h : ∀ k, mnG L s f (mnS L s f n) (allC L ^ n) r k ≤ (Lc L).getD k 0 * (20 * (n + 1) * allC L ^ n) := fun k => by
      unfold mnG
      refine Nat.mul_le_mul_left _ ?_
      have h1 := lo_le ok k (does L s f k r)
      have h2 := mnS_le ok s f n (dayR L s f k r)
      have h3 := Nat.mul_le_mul_right (allC L ^ n) h1
      rw [show 20 * (n + 1) = 20 + 20 * n from by omega, Nat.add_mul]
      exact Nat.add_le_add h3 h2
    have h1 := sumN_mul h (Lm L).length
    have h3 := ok.1.2.2.2.2
    rw [sumN_get _ _ (by omega), ← h3, List.take_length] at h1
    simp only [mnS]
    rw [← h3]
    refine Nat.le_trans h1 (Nat.le_of_eq ?_)
    show allC L * _ = _
    rw [Nat.pow_succ, Nat.mul_comm, Nat.mul_assoc]
def sp_mean (A : AS) (n w : Int) : Int := if (0 ≤ n ∧ n ≤ 3) ∧ 0 ≤ w ∧ w ≤ 1 then (if w = 0 then (mnS (AL A) (Lsort (AL A)) (Lfirst (AL A)) n.toNat (AM A).1 / Nat.gcd (mnS (AL A) (Lsort (AL A)) (Lfirst (AL A)) n.toNat (AM A).1) (allC (AL A) ^ n.toNat) : Nat) else (allC (AL A) ^ n.toNat / Nat.gcd (mnS (AL A) (Lsort (AL A)) (Lfirst (AL A)) n.toNat (AM A).1) (allC (AL A) ^ n.toNat) : Nat)) else -1
/-! the chain of learners -/
def Chn (σ : f_Mem) (j : Nat) : Prop := ∀ i, j < i → i < 8 → LrX σ (97 + 5 * i) (lrnB i)
section CH
variable {σ u : f_Mem} {j : Nat}
theorem Chn.stp (h : Chn σ j) (hf : Fr σ u (97 + 5 * (j + 1)) (97 + 5 * (j + 1) + 5)) : Chn u (j + 1) := fun i a b => (h i (by omega) b).fr hf (by omega)
theorem Chn.sam (h : Chn σ (j + 1)) (hf : Fr σ u (97 + 5 * (j + 1)) (97 + 5 * (j + 1) + 5)) : Chn u (j + 1) := fun i a b => (h i a b).fr hf (by omega)
theorem Chn.up (h : Chn σ (j + 1)) (hx : LrX σ (97 + 5 * (j + 1)) (lrnB (j + 1))) : Chn σ j := fun i a b => by
  by_cases q : i = j + 1
  · subst q; exact hx
  · exact h i (by omega) b
theorem lrnB_some (h : j < 7) : lrnB j = some (97 + 5 * (j + 1)) := by
  unfold lrnB
  rw [if_pos h, show 97 + 5 * (j + 1) = 97 + 5 * j + 5 from by omega]
theorem InvC.chn {A : AS} (h : InvC σ A) : Chn σ 0 := fun i _ b => h.s.2.2.2.2.1 i b
theorem InvC.ch {A : AS} (h : InvC σ A) (hf : Fr σ u 97 137) (hx : LrX u 97 (some 102)) (hc : Chn u 0) : InvC u A := h.lr hf (fun i hi => by
  cases i with
  | zero => exact hx
  | succ i => exact hc (i + 1) (by omega) hi)
end CH
theorem C_step {E : f_E} {σ : f_Mem} {j s f : Nat} {r : List Nat} (h : Lrn σ (97 + 5 * j) (lrnB j) s f r) (hc : Chn σ j) (hj : j < 7) : FR E sC mX0_stepDown 3 [.ref (f_ad E (97 + 5 * j))] σ (some (97 + 5 * (j + 1))) (fun u => Lrn u (97 + 5 * (j + 1)) (lrnB (j + 1)) s f r ∧ Fr σ u (97 + 5 * (j + 1)) (97 + 5 * (j + 1) + 5)) :=
  C_stepDown (by rw [lrnB_some hj] at h; exact h) (hc (j + 1) (by omega) (by omega)) (by omega)
def CHc (E : f_E) (L : Les) (s f n : Nat) : Prop := ∀ (σ : f_Mem) (j : Nat) (r : List Nat), Lrn σ (97 + 5 * j) (lrnB j) s f r → Chn σ j → Lsn σ 19 L → WOK L r → r.length + n < 800000 → j + n ≤ 7 → FZ E sC mX7_lossByChances (n + 6) [.ref (f_ad E 19), .ref (f_ad E (97 + 5 * j)), .int (iI n), .int (iI (allC L : Nat))] σ (mnS L s f n r : Nat) (fun u => Fr σ u (97 + 5 * (j + 1)) 137 ∧ Chn u j)

theorem C_chances0 {E : f_E} {σ : f_Mem} {L : Les} {s f j : Nat} {r : List Nat} (h : Lrn σ (97 + 5 * j) (lrnB j) s f r) (hc : Chn σ j) : FZ E sC mX7_lossByChances (0 + 6) [.ref (f_ad E 19), .ref (f_ad E (97 + 5 * j)), .int (iI (0 : Nat)), .int (iI (allC L : Nat))] σ (mnS L s f 0 r : Nat) (fun u => Fr σ u (97 + 5 * (j + 1)) 137 ∧ Chn u j) := by
  refine FZ.intro rfl (Nat.le_of_ble_eq_true rfl) (L0 := [some (.ref (f_ad E 19)), some (.ref (f_ad E (97 + 5 * j))), some (.int (iI (0 : Nat))), some (.int (iI (allC L : Nat))), none, none, none, none]) rfl (fun G hR => ?_)
  refine g_iload_2 hR dX7_lossByChances_0 (g_if_gt hR 6 dX7_lossByChances_1 (by decide) (by omega) (fun c1 => ?_) (fun c1 => ?_))
  · skip
    exact absurd c1 (by omega)
  · skip
    refine g_iconst hR dX7_lossByChances_4 ?_
    exact g_iret hR dX7_lossByChances_5 rfl rfl ⟨Fr.rf, hc⟩
theorem C_chances1 {E : f_E} {σ : f_Mem} {L : Les} {s f : Nat} (ok : LesOK L) (hs : s < 4) (hf : f < 6) {n : Nat} (ihc : CHc E L s f n) {j : Nat} {r : List Nat} (h : Lrn σ (97 + 5 * j) (lrnB j) s f r) (hc : Chn σ j) (hL : Lsn σ 19 L) (hw : WOK L r) (hr : r.length + (n + 1) < 800000) (hj : j + (n + 1) ≤ 7) : FZ E sC mX7_lossByChances (n + 1 + 6) [.ref (f_ad E 19), .ref (f_ad E (97 + 5 * j)), .int (iI (n + 1 : Nat)), .int (iI (allC L : Nat))] σ (mnS L s f (n + 1) r : Nat) (fun u => Fr σ u (97 + 5 * (j + 1)) 137 ∧ Chn u j) := by
  have hK6 := ok.k
  have hcl := ok.1.2.2.2.2
  refine FZ.intro rfl (Nat.le_of_ble_eq_true rfl) (L0 := [some (.ref (f_ad E 19)), some (.ref (f_ad E (97 + 5 * j))), some (.int (iI (n + 1 : Nat))), some (.int (iI (allC L : Nat))), none, none, none, none]) rfl (fun G hR => ?_)
  refine g_iload_2 hR dX7_lossByChances_0 (g_if_gt hR 6 dX7_lossByChances_1 (by decide) (by omega) (fun c1 => ?_) (fun c1 => ?_))
  · skip
    refine g_iconst hR dX7_lossByChances_6 (g_istore_4 hR dX7_lossByChances_7 rfl (g_iconst hR dX7_lossByChances_9 (g_istore_5 hR dX7_lossByChances_10 rfl ?_)))
    have loop : ∀ (mm : Nat) (k : Nat) (u : f_Mem), mm = (Lm L).length - k → k ≤ (Lm L).length → Fr σ u (97 + 5 * (j + 1)) 137 → Chn u j → ∀ x6 x7 : Option Value, G 12 [some (.ref (f_ad E 19)), some (.ref (f_ad E (97 + 5 * j))), some (.int (iI ((n + 1 : Nat) : Int))), some (.int (iI (allC L : Nat))), some (.int (iI (sumN (mnG L s f (mnS L s f n) (allC L ^ n) r) k : Nat))), some (.int (iI k)), x6, x7] [] u := by
      intro mm
      induction mm using Nat.strongRecOn with
      | ind mm ih =>
        intro k u hm hk hF hC x6 x7
        have hN := h.fr hF (by omega)
        have hLu := hL.fr hF (by omega)
        refine g_iload_5 hR dX7_lossByChances_12 (g_aload_0 hR dX7_lossByChances_14 (g_callV0P hR dX7_lossByChances_15 mlX7_116 sh_laid.lt sh_laid.obj rfl (C_kinds hLu) (by omega) (Nat.le_of_ble_eq_true rfl) (g_icmp_ge hR 109 dX7_lossByChances_18 (by decide) (by omega) (by omega) (fun c18 => ?_) (fun c18 => ?_))))
        · skip
          refine g_iload_4 hR dX7_lossByChances_109 ?_
          have e : k = (Lm L).length := by omega
          subst e
          exact g_iret hR dX7_lossByChances_111 rfl rfl ⟨hF, hC⟩
        · skip
          refine g_aload_0 hR dX7_lossByChances_21 (g_iload_5 hR dX7_lossByChances_22 (g_aload_1 hR dX7_lossByChances_24 (g_iload_5 hR dX7_lossByChances_25 (g_callV1P hR dX7_lossByChances_27 mlX7_164 h.sh.lt h.sh.obj rfl (C_willDo hN hLu ok hw hs hf (by omega) (by omega)) (by omega) (Nat.le_of_ble_eq_true rfl) (g_callV2P hR dX7_lossByChances_30 mlX7_265 sh_laid.lt sh_laid.obj rfl (C_lost hLu ok (by omega) (does_lt L s hf _ _)) (by omega) (Nat.le_of_ble_eq_true rfl) (g_iload_3 hR dX7_lossByChances_33 (g_iload_2 hR dX7_lossByChances_34 (g_iconst hR dX7_lossByChances_35 (g_isub hR dX7_lossByChances_36 ?_)))))))))
          rw [show ((n + 1 : Nat) : Int) - 1 = (n : Nat) from by omega]
          refine g_callS2P hR dX7_lossByChances_37 mlX7_256 (C_power (b := allC L) (n := n) (by omega)) (by omega) (Nat.le_of_ble_eq_true rfl) (g_imul hR dX7_lossByChances_40 (g_istore_6 hR dX7_lossByChances_41 rfl (g_iload_2 hR dX7_lossByChances_43 (g_iconst hR dX7_lossByChances_44 (g_icmp_le hR 55 dX7_lossByChances_45 (by decide) (by omega) (by omega) (fun c45 => ?_) (fun c45 => ?_))))))
          · skip
            refine g_null hR dX7_lossByChances_55 (g_astoreN_7 hR dX7_lossByChances_56 rfl (g_aloadN_7 hR dX7_lossByChances_58 (g_ifnullN hR 86 dX7_lossByChances_60 (by decide) ?_)))
            have e0 : n = 0 := by omega
            subst e0
            have hL9 := hLu
            refine g_iload_4 hR dX7_lossByChances_86 (g_aload_0 hR dX7_lossByChances_88 (g_getR hR dX7_lossByChances_89 flX7_141 sh_laid.lt sh_laid.obj rfl (g_iload_5 hR dX7_lossByChances_92 (g_callV1P hR dX7_lossByChances_94 mlX7_128 sh_laid.chance.lt sh_laid.chance.obj rfl (Cn_at hL9.c (i := k) (by omega)) (by omega) (Nat.le_of_ble_eq_true rfl) (g_iload_6 hR dX7_lossByChances_97 (g_imul hR dX7_lossByChances_99 (g_iadd hR dX7_lossByChances_100 (g_istore_4 hR dX7_lossByChances_101 rfl (g_iinc_5 hR dX7_lossByChances_103 rfl (g_goto hR 12 dX7_lossByChances_106 (by decide) ?_))))))))))
            have e2 : ((sumN (mnG L s f (mnS L s f 0) (allC L ^ 0) r) (k + 1) : Nat) : Int) = (sumN (mnG L s f (mnS L s f 0) (allC L ^ 0) r) k : Nat) + ((Lc L).getD k 0 : Nat) * ((lo L k (does L s f k r) : Nat) * (allC L ^ 0 : Nat)) := by
              rw [show sumN (mnG L s f (mnS L s f 0) (allC L ^ 0) r) (k + 1) = sumN (mnG L s f (mnS L s f 0) (allC L ^ 0) r) k + (Lc L).getD k 0 * (lo L k (does L s f k r) * allC L ^ 0) from rfl]
              simp only [Int.natCast_add, Int.natCast_mul]
            have h9 := ih ((Lm L).length - (k + 1)) (by omega) (k + 1) u rfl (by omega) hF hC
            rw [e2] at h9
            exact h9 _ _
          · skip
            refine g_aload_1 hR dX7_lossByChances_48 (g_callV0R hR dX7_lossByChances_49 mlX7_312 h.sh.lt h.sh.obj rfl (C_step hN hC (by omega)) (by omega) (Nat.le_of_ble_eq_true rfl) (fun u1 hu1 => ?_))
            have hL1 := hLu.fr hu1.2 (by omega)
            refine g_goto hR 56 dX7_lossByChances_52 (by decide) (g_astore_7 hR dX7_lossByChances_56 rfl (g_aload_7 hR dX7_lossByChances_58 (g_ifnull hR dX7_lossByChances_60 (g_aload_7 hR dX7_lossByChances_63 (g_iload_5 hR dX7_lossByChances_65 (g_callV1Z hR dX7_lossByChances_67 mlX7_198 hu1.1.sh.lt hu1.1.sh.obj rfl (C_day hu1.1 hL1 ok hw hs hf (by omega) (by omega) (k := k) (by omega)) (by omega) (Nat.le_of_ble_eq_true rfl) (fun u2 hu2 => ?_)))))))
            have hL2 := hL1.fr hu2.2 (by omega)
            have hC2 := (hC.stp hu1.2).sam hu2.2
            have hrl := dayR_len L s f k r
            refine g_pop hR dX7_lossByChances_70 rfl (g_iload_6 hR dX7_lossByChances_71 (g_aload_0 hR dX7_lossByChances_73 (g_aload_7 hR dX7_lossByChances_74 (g_iload_2 hR dX7_lossByChances_76 (g_iconst hR dX7_lossByChances_77 (g_isub hR dX7_lossByChances_78 (g_iload_3 hR dX7_lossByChances_79 ?_)))))))
            rw [show ((n + 1 : Nat) : Int) - 1 = (n : Nat) from by omega]
            refine g_callS4Z hR dX7_lossByChances_80 mlX7_253 (ihc u2 (j + 1) (dayR L s f k r) hu2.1 hC2 hL2 (dayR_ok ok hw (by omega) s f) (by omega) (by omega)) (by omega) (Nat.le_of_ble_eq_true rfl) (fun u3 hu3 => (g_iadd hR dX7_lossByChances_83 (g_istore_6 hR dX7_lossByChances_84 rfl ?_)))
            have hL9 := hL2.fr hu3.1 (by omega)
            refine g_iload_4 hR dX7_lossByChances_86 (g_aload_0 hR dX7_lossByChances_88 (g_getR hR dX7_lossByChances_89 flX7_141 sh_laid.lt sh_laid.obj rfl (g_iload_5 hR dX7_lossByChances_92 (g_callV1P hR dX7_lossByChances_94 mlX7_128 sh_laid.chance.lt sh_laid.chance.obj rfl (Cn_at hL9.c (i := k) (by omega)) (by omega) (Nat.le_of_ble_eq_true rfl) (g_iload_6 hR dX7_lossByChances_97 (g_imul hR dX7_lossByChances_99 (g_iadd hR dX7_lossByChances_100 (g_istore_4 hR dX7_lossByChances_101 rfl (g_iinc_5 hR dX7_lossByChances_103 rfl (g_goto hR 12 dX7_lossByChances_106 (by decide) ?_))))))))))
            have e2 : ((sumN (mnG L s f (mnS L s f n) (allC L ^ n) r) (k + 1) : Nat) : Int) = (sumN (mnG L s f (mnS L s f n) (allC L ^ n) r) k : Nat) + ((Lc L).getD k 0 : Nat) * ((lo L k (does L s f k r) : Nat) * (allC L ^ n : Nat) + (mnS L s f n (dayR L s f k r) : Nat)) := by
              rw [show sumN (mnG L s f (mnS L s f n) (allC L ^ n) r) (k + 1) = sumN (mnG L s f (mnS L s f n) (allC L ^ n) r) k + (Lc L).getD k 0 * (lo L k (does L s f k r) * allC L ^ n + mnS L s f n (dayR L s f k r)) from rfl]
              simp only [Int.natCast_add, Int.natCast_mul]
            have h9 := ih ((Lm L).length - (k + 1)) (by omega) (k + 1) u3 rfl (by omega) (hF.tr (((hu1.2.mono (by omega) (by omega)).tr (hu2.2.mono (by omega) (by omega))).tr (hu3.1.mono (by omega) (by omega)))) (hu3.2.up (hu2.1.x.fr hu3.1 (by omega)))
            rw [e2] at h9
            exact h9 _ _
    exact loop (Lm L).length 0 σ (by omega) (by omega) Fr.rf hc _ _
  · skip
    exact absurd c1 (by omega)

theorem C_chances (E : f_E) {L : Les} {s f : Nat} (ok : LesOK L) (hs : s < 4) (hf : f < 6) : ∀ n, CHc E L s f n
  | 0 => fun σ j r h hc _ _ _ _ => C_chances0 h hc
  | n + 1 => fun σ j r h hc hL hw hr hj => C_chances1 ok hs hf (C_chances E ok hs hf n) h hc hL hw hr hj

theorem K_mean {E : f_E} {σ : f_Mem} {A : AS} (h : InvC σ A) (ok : ASOK A) {n w : Int} (hn : -2147483648 ≤ n ∧ n < 2147483648) (hw : -2147483648 ≤ w ∧ w < 2147483648) : FZ E sC mX7_mean 12 [.ref (f_ad E 0), .int (iI n), .int (iI w)] σ (sp_mean A n w) (fun u => InvC u A) := by
  have hK1 := ok.K1
  have hK6 := ok.K6
  have hkk : AK A = (Lm (AL A)).length := rfl
  have hwl := ok.wl
  have hap := allC_pos ok.L ok.K1
  refine FZ.intro rfl (Nat.le_of_ble_eq_true rfl) (L0 := [some (.ref (f_ad E 0)), some (.int (iI n)), some (.int (iI w)), none, none, none, none]) rfl (fun G hR => ?_)
  refine g_iload_1 hR dX7_mean_0 (g_iconst hR dX7_mean_1 (g_iconst hR dX7_mean_2 (g_callS3P hR dX7_mean_3 mlX7_105 (C_isWithin hn (by omega) (by omega)) (by omega) (Nat.le_of_ble_eq_true rfl) (g_if_eq hR 18 dX7_mean_6 (by decide) (by split <;> omega) (fun c6 => ?_) (fun c6 => ?_)))))
  · skip
    refine g_iconst hR dX7_mean_18 ?_
    exact g_iret hR dX7_mean_19 rfl (by unfold sp_mean; rw [if_neg (by omega)]; skip) h
  · skip
    refine g_iload_2 hR dX7_mean_9 (g_iconst hR dX7_mean_10 (g_iconst hR dX7_mean_11 (g_callS3P hR dX7_mean_12 mlX7_105 (C_isWithin hw (by omega) (by omega)) (by omega) (Nat.le_of_ble_eq_true rfl) (g_if_ne hR 20 dX7_mean_15 (by decide) (by split <;> omega) (fun c15 => ?_) (fun c15 => ?_)))))
    · skip
      obtain ⟨nq, rfl⟩ : ∃ nq : Nat, n = nq := ⟨n.toNat, by omega⟩
      refine g_aload_0 hR dX7_mean_20 (g_getR hR dX7_mean_21 flX7_34 (by decide) rfl rfl (g_callV0P hR dX7_mean_24 mlX7_250 sh_laid.lt sh_laid.obj rfl (C_allChances h.L) (by omega) (Nat.le_of_ble_eq_true rfl) (g_istore_3 hR dX7_mean_27 rfl (g_aload_0 hR dX7_mean_28 (g_getR hR dX7_mean_29 flX7_34 (by decide) rfl rfl (g_aload_0 hR dX7_mean_32 (g_aload_0 hR dX7_mean_33 (g_getR hR dX7_mean_34 flX7_34 (by decide) rfl rfl (g_getI hR _ dX7_mean_37 flX7_167 sh_laid.lt sh_laid.obj rfl h.L.sort (g_callV1R hR dX7_mean_40 mlX7_160 (by decide) rfl rfl (C_learnerNow h ok ok.L.s) (by omega) (Nat.le_of_ble_eq_true rfl) (fun u1 hu1 => ?_)))))))))))
      have hI1 := h.l0 hu1.2 hu1.1.x
      refine g_iload_1 hR dX7_mean_43 (g_iload_3 hR dX7_mean_44 (g_callS4Z hR dX7_mean_45 mlX7_253 (C_chances E ok.L ok.L.s ok.L.f nq u1 0 (AM A).1 hu1.1 hI1.chn hI1.L ok.w (by omega) (by omega)) (by omega) (Nat.le_of_ble_eq_true rfl) (fun u2 hu2 => ?_)))
      have hI2 := hI1.ch (hu2.1.mono (by omega) (by omega)) (hu1.1.x.fr hu2.1 (by omega)) hu2.2
      have hb1 := mnS_le ok.L (Lsort (AL A)) (Lfirst (AL A)) nq (AM A).1
      have hb2 : allC (AL A) ^ nq ≤ 157464 := Nat.le_trans (Nat.pow_le_pow_left (allC_le ok.L) nq) (Nat.le_trans (Nat.pow_le_pow_right (by omega) (show nq ≤ 3 from by omega)) (by decide))
      have hb3 : 1 ≤ allC (AL A) ^ nq := by { have := Nat.pow_le_pow_left hap nq; rw [Nat.one_pow] at this; exact this }
      have hb4 : 20 * nq * allC (AL A) ^ nq ≤ 60 * 157464 := Nat.mul_le_mul (by omega) hb2
      have hg0 : 0 < Nat.gcd (mnS (AL A) (Lsort (AL A)) (Lfirst (AL A)) nq (AM A).1) (allC (AL A) ^ nq) := Nat.gcd_pos_of_pos_right _ hb3
      have hg1 := Nat.gcd_le_right (mnS (AL A) (Lsort (AL A)) (Lfirst (AL A)) nq (AM A).1) hb3
      refine g_istore_4 hR dX7_mean_48 rfl (g_iload_3 hR dX7_mean_50 (g_iload_1 hR dX7_mean_51 (g_callS2P hR dX7_mean_52 mlX7_256 (C_power (b := allC (AL A)) (n := nq) (by omega)) (by omega) (Nat.le_of_ble_eq_true rfl) (g_istore_5 hR dX7_mean_55 rfl (g_iload_4 hR dX7_mean_57 (g_iload_5 hR dX7_mean_59 (g_callS2P hR dX7_mean_61 mlX7_259 (C_gcd (a := mnS (AL A) (Lsort (AL A)) (Lfirst (AL A)) nq (AM A).1) (b := allC (AL A) ^ nq) (by omega) (by omega)) (by omega) (Nat.le_of_ble_eq_true rfl) (g_istore_6 hR dX7_mean_64 rfl (g_iload_6 hR dX7_mean_66 (g_if_ne hR 73 dX7_mean_68 (by decide) (by omega) (fun c68 => ?_) (fun c68 => ?_)))))))))))
      · skip
        refine g_iload_2 hR dX7_mean_73 (g_if_ne hR 85 dX7_mean_74 (by decide) (by omega) (fun c74 => ?_) (fun c74 => ?_))
        · skip
          refine g_iload_5 hR dX7_mean_85 (g_iload_6 hR dX7_mean_87 (g_idiv hR dX7_mean_89 (by omega) (by omega) ?_))
          exact g_iret hR dX7_mean_90 rfl (by unfold sp_mean; rw [if_pos (by omega), if_neg (by omega)]; rfl) hI2
        · skip
          refine g_iload_4 hR dX7_mean_77 (g_iload_6 hR dX7_mean_79 (g_idiv hR dX7_mean_81 (by omega) (by omega) (g_goto hR 90 dX7_mean_82 (by decide) ?_)))
          exact g_iret hR dX7_mean_90 rfl (by unfold sp_mean; rw [if_pos (by omega), if_pos (by omega)]; rfl) hI2
      · skip
        exact absurd c68 (by omega)
    · skip
      refine g_iconst hR dX7_mean_18 ?_
      exact g_iret hR dX7_mean_19 rfl (by unfold sp_mean; rw [if_neg (by omega)]; skip) h
