
theorem runD_len (L : Les) (s f : Nat) : ∀ (row r : List Nat), (runD L s f row r).length = row.length
  | [], r => rfl
  | k :: t, r => by simp only [runD, List.length_cons]; rw [runD_len L s f t]
theorem runD_get (L : Les) (s f : Nat) : ∀ (row r : List Nat) (i : Nat), i < row.length → (runD L s f row r).getD i 0 = does L s f (row.getD i 0) (runR L s f (row.take i) r)
  | k :: t, r, 0, _ => rfl
  | k :: t, r, i + 1, h => by
    simp only [runD, List.getD_cons_succ, List.take_succ_cons, runR]
    exact runD_get L s f t _ i (by simpa using h)
theorem runD_lt {L : Les} {s f : Nat} (hf : f < 6) (row r : List Nat) (i : Nat) : (runD L s f row r).getD i 0 < 6 := by
  by_cases h : i < row.length
  · rw [runD_get L s f row r i h]; exact does_lt L s hf _ _
  · rw [getD_out (by rw [runD_len]; omega)]; omega
def sp_run (A : AS) (s k w : Int) : Int := if (0 ≤ s ∧ s ≤ 3) ∧ (-1 ≤ k ∧ k ≤ (Lrow (AL A)).length - 1) ∧ 0 ≤ w ∧ w ≤ 1 then
    (if k = -1 then (if w = 0 then (runL (AL A) s.toNat (Lfirst (AL A)) (Lrow (AL A)) (AM A).1 : Nat) else firstG (AL A) s.toNat (Lfirst (AL A)) 0 (Lrow (AL A)) (AM A).1)
     else if w = 0 then ((runD (AL A) s.toNat (Lfirst (AL A)) (Lrow (AL A)) (AM A).1).getD k.toNat 0 : Nat)
     else (oc (AL A) ((Lrow (AL A)).getD k.toNat 0) ((runD (AL A) s.toNat (Lfirst (AL A)) (Lrow (AL A)) (AM A).1).getD k.toNat 0) : Nat))
  else -1
/-- the first from p on, of n, of which c holds -/
def seekP (c : Nat → Bool) : Nat → Nat → Int
  | 0, _ => -4
  | n + 1, p => if c p = true then p else seekP c n (p + 1)
def wrC (L : Les) (d m : Nat) (nar : Bool) (k : Nat) : Bool := if nar then decide ((Lr L).getD k 0 = d) && !decide ((Lm L).getD k 0 &&& m = m) else decide ((Lm L).getD k 0 &&& m = m) && !decide ((Lr L).getD k 0 = d)
def sp_wrong (A : AS) (d m b : Int) : Int := if (0 ≤ d ∧ d ≤ 5) ∧ 0 ≤ m ∧ m ≤ 31 then seekP (wrC (AL A) d.toNat m.toNat (decide (b ≠ 0))) (AK A) 0 else -1
def ruC (L : Les) (d m : Nat) : Bool := decide (seekP (wrC L d m false) (Lm L).length 0 = -4) && decide (seekP (wrC L d m true) (Lm L).length 0 = -4)
def ruF (c : Nat → Bool) : Nat → Int × Nat
  | 0 => (-4, 1000000)
  | n + 1 => if pc5 n < (ruF c n).2 ∧ c n = true then (n, pc5 n) else ruF c n
def sp_rule (A : AS) (d : Int) : Int := if 0 ≤ d ∧ d ≤ 5 then (ruF (ruC (AL A) d.toNat) 32).1 else -1
theorem ruF_le (c : Nat → Bool) : ∀ n, (ruF c n).2 ≤ 1000000
  | 0 => Nat.le_refl _
  | n + 1 => by
    have h1 := ruF_le c n
    have h2 := pc5_le n
    unfold ruF; split
    · show pc5 n ≤ 1000000; omega
    · exact h1
/-- a bit set out of answers -/
def bitsF (b : Nat → Bool) : Nat → Nat
  | 0 => 0
  | n + 1 => if b n = true then bitsF b n ||| (1 * 2 ^ n) else bitsF b n
theorem bitsF_lt (b : Nat → Bool) : ∀ n, bitsF b n < 2 ^ n
  | 0 => by simp [bitsF]
  | n + 1 => by
    have h := bitsF_lt b n
    have h2 : (2 : Nat) ^ n < 2 ^ (n + 1) := Nat.pow_lt_pow_right (by omega) (by omega)
    unfold bitsF; split
    · exact Nat.or_lt_two_pow (by omega) (by omega)
    · omega
def fitB (A : AS) (s f : Nat) : Bool := (Az A).all (fun v => decide ((runD (AL A) s f (Lrow (AL A)) []).getD (v / 6) 0 = v % 6))
def fitsN (A : AS) : Nat := bitsF (fun s => fitB A s (Lfirst (AL A))) 4
def sp_fits (A : AS) : Int := (fitsN A : Nat)
def sp_firsts (A : AS) (s : Int) : Int := if 0 ≤ s ∧ s ≤ 3 then (bitsF (fun f => fitB A s.toNat f) 6 : Nat) else -1
/-- no word of what is seen speaks against the place -/
def agB (z : List Nat) (p d : Nat) : Bool := z.all (fun v => decide (v / 6 = p → v % 6 = d))

theorem K_run {E : f_E} {σ : f_Mem} {A : AS} (h : InvC σ A) (ok : ASOK A) {s k w : Int} (hs : -2147483648 ≤ s ∧ s < 2147483648) (hk : -2147483648 ≤ k ∧ k < 2147483648) (hw : -2147483648 ≤ w ∧ w < 2147483648) : FZ E sC mX7_run 12 [.ref (f_ad E 0), .int (iI s), .int (iI k), .int (iI w)] σ (sp_run A s k w) (fun u => InvC u A) := by
  have hK1 := ok.K1
  have hK6 := ok.K6
  have hkk : AK A = (Lm (AL A)).length := rfl
  have hrl := ok.L.rl
  have hwl := ok.wl
  refine FZ.intro rfl (Nat.le_of_ble_eq_true rfl) (L0 := [some (.ref (f_ad E 0)), some (.int (iI s)), some (.int (iI k)), some (.int (iI w)), none, none, none]) rfl (fun G hR => ?_)
  refine g_iload_1 hR dX7_run_0 (g_callS1P hR dX7_run_1 mlX7_157 (C_isSort hs) (by decide) (Nat.le_of_ble_eq_true rfl) (g_if_eq hR 36 dX7_run_4 (by decide) (by split <;> omega) (fun c4 => ?_) (fun c4 => ?_)))
  · skip
    refine g_iconst hR dX7_run_36 ?_
    exact g_iret hR dX7_run_37 rfl (by unfold sp_run; rw [if_neg (by omega)]; skip) h
  · skip
    refine g_iload_2 hR dX7_run_7 (g_iconst hR dX7_run_8 (g_aload_0 hR dX7_run_9 (g_getR hR dX7_run_10 flX7_34 (by decide) rfl rfl (g_getR hR dX7_run_13 flX7_147 sh_laid.lt sh_laid.obj rfl (g_callV0P hR dX7_run_16 mlX7_113 sh_laid.row.lt sh_laid.row.obj rfl (Cn_size h.L.row) (by decide) (Nat.le_of_ble_eq_true rfl) (g_iconst hR dX7_run_19 (g_isub hR dX7_run_20 (g_callS3P hR dX7_run_21 mlX7_105 (C_isWithin hk (by omega) (by omega)) (by decide) (Nat.le_of_ble_eq_true rfl) (g_if_eq hR 36 dX7_run_24 (by decide) (by split <;> omega) (fun c24 => ?_) (fun c24 => ?_))))))))))
    · skip
      refine g_iconst hR dX7_run_36 ?_
      exact g_iret hR dX7_run_37 rfl (by unfold sp_run; rw [if_neg (by omega)]; skip) h
    · skip
      refine g_iload_3 hR dX7_run_27 (g_iconst hR dX7_run_28 (g_iconst hR dX7_run_29 (g_callS3P hR dX7_run_30 mlX7_105 (C_isWithin hw (by omega) (by omega)) (by decide) (Nat.le_of_ble_eq_true rfl) (g_if_ne hR 38 dX7_run_33 (by decide) (by split <;> omega) (fun c33 => ?_) (fun c33 => ?_)))))
      · skip
        obtain ⟨sq, rfl⟩ : ∃ sq : Nat, s = sq := ⟨s.toNat, by omega⟩
        refine g_aload_0 hR dX7_run_38 (g_iload_1 hR dX7_run_39 (g_callV1R hR dX7_run_40 mlX7_160 (by decide) rfl rfl (C_learnerNow h ok (s := sq) (by omega)) (by decide) (Nat.le_of_ble_eq_true rfl) (fun u1 hu1 => ?_)))
        have h1 := h.l0 hu1.2 hu1.1.x
        refine g_astore_4 hR dX7_run_43 rfl (g_iload_2 hR dX7_run_45 (g_iconst hR dX7_run_46 (g_icmp_ne hR 68 dX7_run_47 (by decide) (by omega) (by omega) (fun c47 => ?_) (fun c47 => ?_))))
        · skip
          obtain ⟨kq, rfl⟩ : ∃ kq : Nat, k = kq := ⟨k.toNat, by omega⟩
          refine g_iconst hR dX7_run_68 (g_istore_5 hR dX7_run_69 rfl ?_)
          have loop : ∀ (mm : Nat) (j : Nat) (u : f_Mem), mm = kq - j → j ≤ kq → Lrn u 97 (some 102) sq (Lfirst (AL A)) (runR (AL A) sq (Lfirst (AL A)) ((Lrow (AL A)).take j) (AM A).1) → Fr σ u 97 102 → ∀ x6 : Option Value, G 71 [some (.ref (f_ad E 0)), some (.int (iI sq)), some (.int (iI kq)), some (.int (iI w)), some (.ref (f_ad E 97)), some (.int (iI j)), x6] [] u := by
            intro mm
            induction mm using Nat.strongRecOn with
            | ind mm ih =>
              intro j u hm hj hN hF x6
              have h2 := h.l0 hF hN.x
              have hwj : WOK (AL A) (runR (AL A) sq (Lfirst (AL A)) ((Lrow (AL A)).take j) (AM A).1) := runR_ok ok.L sq _ _ _ (fun k hk => ok.L.2.2.1.2 k (List.mem_of_mem_take hk)) ok.w
              have hlen := runR_len (AL A) sq (Lfirst (AL A)) ((Lrow (AL A)).take j) (AM A).1
              have htl : ((Lrow (AL A)).take j).length ≤ 10 := by rw [List.length_take]; omega
              refine g_iload_5 hR dX7_run_71 (g_iload_2 hR dX7_run_73 (g_icmp_ge hR 101 dX7_run_74 (by decide) (by omega) (by omega) (fun c74 => ?_) (fun c74 => ?_)))
              · skip
                have e : kq = j := by omega
                subst e
                have e9 : (runD (AL A) ((sq : Int)).toNat (Lfirst (AL A)) (Lrow (AL A)) (AM A).1).getD ((kq : Int)).toNat 0 = _ := runD_get (AL A) sq (Lfirst (AL A)) (Lrow (AL A)) (AM A).1 kq (by omega)
                refine g_aload_0 hR dX7_run_101 (g_getR hR dX7_run_102 flX7_34 (by decide) rfl rfl (g_getR hR dX7_run_105 flX7_147 sh_laid.lt sh_laid.obj rfl (g_iload_2 hR dX7_run_108 (g_callV1P hR dX7_run_109 mlX7_128 sh_laid.row.lt sh_laid.row.obj rfl (Cn_at h2.L.row (i := kq) (by omega)) (by decide) (Nat.le_of_ble_eq_true rfl) (g_istore_5 hR dX7_run_112 rfl (g_aload_4 hR dX7_run_114 (g_iload_5 hR dX7_run_116 (g_callV1P hR dX7_run_118 mlX7_164 sh_lrn0.lt sh_lrn0.obj rfl (C_willDo hN h2.L ok.L hwj (by omega) ok.L.f (by omega) (ok.L.rk (show kq < (Lrow (AL A)).length from by omega))) (by decide) (Nat.le_of_ble_eq_true rfl) (g_istore_6 hR dX7_run_121 rfl (g_iload_3 hR dX7_run_123 (g_if_ne hR 132 dX7_run_124 (by decide) (by omega) (fun c124 => ?_) (fun c124 => ?_))))))))))))
                · skip
                  refine g_aload_0 hR dX7_run_132 (g_getR hR dX7_run_133 flX7_34 (by decide) rfl rfl (g_iload_5 hR dX7_run_136 (g_iload_6 hR dX7_run_138 (g_callV2P hR dX7_run_140 mlX7_178 sh_laid.lt sh_laid.obj rfl (C_outcome h2.L ok.L (by have := ok.L.rk (show kq < (Lrow (AL A)).length from by omega); omega) (does_lt _ _ ok.L.f _ _)) (by decide) (Nat.le_of_ble_eq_true rfl) ?_))))
                  exact g_iret hR dX7_run_143 rfl (by unfold sp_run; rw [if_pos (by omega), if_neg (by omega), if_neg (by omega)]; rw [e9]; rfl) h2
                · skip
                  refine g_iload_6 hR dX7_run_127 (g_goto hR 143 dX7_run_129 (by decide) ?_)
                  exact g_iret hR dX7_run_143 rfl (by unfold sp_run; rw [if_pos (by omega), if_neg (by omega), if_pos (by omega)]; rw [e9]) h2
              · skip
                have hj9 : j < (Lrow (AL A)).length := by omega
                refine g_aload_4 hR dX7_run_77 (g_aload_0 hR dX7_run_79 (g_getR hR dX7_run_80 flX7_34 (by decide) rfl rfl (g_getR hR dX7_run_83 flX7_147 sh_laid.lt sh_laid.obj rfl (g_iload_5 hR dX7_run_86 (g_callV1P hR dX7_run_88 mlX7_128 sh_laid.row.lt sh_laid.row.obj rfl (Cn_at h2.L.row (i := j) (by omega)) (by decide) (Nat.le_of_ble_eq_true rfl) (g_callV1Z hR dX7_run_91 mlX7_198 sh_lrn0.lt sh_lrn0.obj rfl (C_day hN h2.L ok.L hwj (by omega) ok.L.f (by omega) (by omega) (ok.L.rk hj9)) (by decide) (Nat.le_of_ble_eq_true rfl) (fun u1 hu1 => (g_pop hR dX7_run_94 rfl (g_iinc_5 hR dX7_run_95 rfl (g_goto hR 71 dX7_run_98 (by decide) ?_))))))))))
                have e := runR_snoc (AL A) sq (Lfirst (AL A)) ((Lrow (AL A)).getD j 0) ((Lrow (AL A)).take j) (AM A).1
                rw [← take_snoc hj9] at e
                have hN2 := hu1.1
                rw [← e] at hN2
                exact ih (kq - (j + 1)) (by omega) (j + 1) u1 rfl (by omega) hN2 (hF.tr hu1.2) _
          exact loop kq 0 u1 (by omega) (by omega) hu1.1 hu1.2 _
        · skip
          refine g_iload_3 hR dX7_run_50 (g_if_ne hR 62 dX7_run_51 (by decide) (by omega) (fun c51 => ?_) (fun c51 => ?_))
          · skip
            refine g_aload_4 hR dX7_run_62 (g_callV0Z hR dX7_run_64 mlX7_195 sh_lrn0.lt sh_lrn0.obj rfl (C_firstGood hu1.1 h1.L ok.L ok.w (by omega) ok.L.f (by omega) (by omega)) (by decide) (Nat.le_of_ble_eq_true rfl) (fun u2 hu2 => ?_))
            exact g_iret hR dX7_run_67 rfl (by unfold sp_run; rw [if_pos (by omega), if_pos (by omega), if_neg (by omega)]; rfl) (by obtain ⟨⟨r2, g1⟩, g2⟩ := hu2; exact h1.l0 g2 g1.x)
          · skip
            refine g_aload_4 hR dX7_run_54 (g_callV0Z hR dX7_run_56 mlX7_192 sh_lrn0.lt sh_lrn0.obj rfl (C_lossOfRow hu1.1 h1.L ok.L ok.w (by omega) ok.L.f (by omega) (by omega)) (by decide) (Nat.le_of_ble_eq_true rfl) (fun u2 hu2 => (g_goto hR 67 dX7_run_59 (by decide) ?_)))
            exact g_iret hR dX7_run_67 rfl (by unfold sp_run; rw [if_pos (by omega), if_pos (by omega), if_pos (by omega)]; rfl) (h1.l0 hu2.2 hu2.1.x)
      · skip
        refine g_iconst hR dX7_run_36 ?_
        exact g_iret hR dX7_run_37 rfl (by unfold sp_run; rw [if_neg (by omega)]; skip) h

theorem wrC_of {L : Les} {d m k : Nat} {nar H R : Bool} (hh : decide ((Lm L).getD k 0 &&& m = m) = H) (hr : decide ((Lr L).getD k 0 = d) = R) : wrC L d m nar k = if nar then R && !H else H && !R := by subst hh hr; rfl
theorem seekP_yes {c : Nat → Bool} {n p : Nat} (hn : 0 < n) (h : c p = true) : seekP c n p = p := by
  cases n with
  | zero => omega
  | succ n => simp only [seekP]; rw [if_pos h]
theorem seekP_no {c : Nat → Bool} {n p : Nat} (hn : 0 < n) (h : c p = false) : seekP c n p = seekP c (n - 1) (p + 1) := by
  cases n with
  | zero => omega
  | succ n => simp only [seekP]; rw [if_neg (by rw [h]; decide)]; rfl

theorem C_firstWrong {E : f_E} {σ : f_Mem} {A : AS} (h : InvC σ A) (ok : ASOK A) {d m : Nat} {b : Int} (hd : d < 6) (hm : m < 32) (hb : b = 0 ∨ b = 1) : FZ E sC mX7_firstWrong 2 [.ref (f_ad E 0), .int (iI d), .int (iI m), .int (iI b)] σ (seekP (wrC (AL A) d m (decide (b ≠ 0))) (AK A) 0) (fun u => u = σ) := by
  have hK1 := ok.K1
  have hK6 := ok.K6
  have hkk : AK A = (Lm (AL A)).length := rfl
  refine FZ.intro rfl (Nat.le_of_ble_eq_true rfl) (L0 := [some (.ref (f_ad E 0)), some (.int (iI d)), some (.int (iI m)), some (.int (iI b)), none, none, none]) rfl (fun G hR => ?_)
  refine g_iconst hR dX7_firstWrong_0 (g_istore_4 hR dX7_firstWrong_1 rfl ?_)
  have loop : ∀ (mm : Nat) (j : Nat), mm = AK A - j → j ≤ AK A → seekP (wrC (AL A) d m (decide (b ≠ 0))) (AK A) 0 = seekP (wrC (AL A) d m (decide (b ≠ 0))) (AK A - j) j → ∀ x5 x6 : Option Value, G 3 [some (.ref (f_ad E 0)), some (.int (iI d)), some (.int (iI m)), some (.int (iI b)), some (.int (iI j)), x5, x6] [] σ := by
    intro mm
    induction mm using Nat.strongRecOn with
    | ind mm ih =>
      intro j hm hj hs x5 x6
      refine g_iload_4 hR dX7_firstWrong_3 (g_aload_0 hR dX7_firstWrong_5 (g_getR hR dX7_firstWrong_6 flX7_34 (by decide) rfl rfl (g_callV0P hR dX7_firstWrong_9 mlX7_116 sh_laid.lt sh_laid.obj rfl (C_kinds h.L) (by decide) (Nat.le_of_ble_eq_true rfl) (g_icmp_ge hR 99 dX7_firstWrong_12 (by decide) (by omega) (by omega) (fun c12 => ?_) (fun c12 => ?_)))))
      · skip
        refine g_bipush hR dX7_firstWrong_99 (by decide) ?_
        rw [show AK A - j = 0 from by omega] at hs
        exact g_iret hR dX7_firstWrong_101 rfl (by rw [hs]; rfl) rfl
      · skip
        have hmj := ok.L.m j
        have hrj := ok.L.r j
        refine g_aload_0 hR dX7_firstWrong_15 (g_getR hR dX7_firstWrong_16 flX7_34 (by decide) rfl rfl (g_getR hR dX7_firstWrong_19 flX7_125 sh_laid.lt sh_laid.obj rfl (g_iload_4 hR dX7_firstWrong_22 (g_callV1P hR dX7_firstWrong_24 mlX7_128 sh_laid.marks.lt sh_laid.marks.obj rfl (Cn_at h.L.m (i := j) (by omega)) (by decide) (Nat.le_of_ble_eq_true rfl) (g_iload_2 hR dX7_firstWrong_27 (g_iand hR dX7_firstWrong_28 (g_iload_2 hR dX7_firstWrong_29 (g_icmp_ne hR 37 dX7_firstWrong_30 (by decide) (by have := Nat.and_le_left (n := (Lm (AL A)).getD j 0) (m := m); omega) (by omega) (fun c30 => ?_) (fun c30 => ?_)))))))))
        · skip
          have h30 : ¬ (Lm (AL A)).getD j 0 &&& m = m := by omega
          refine g_iconst hR dX7_firstWrong_37 (g_istore_5 hR dX7_firstWrong_38 rfl (g_aload_0 hR dX7_firstWrong_40 (g_getR hR dX7_firstWrong_41 flX7_34 (by decide) rfl rfl (g_getR hR dX7_firstWrong_44 flX7_132 sh_laid.lt sh_laid.obj rfl (g_iload_4 hR dX7_firstWrong_47 (g_callV1P hR dX7_firstWrong_49 mlX7_128 sh_laid.right.lt sh_laid.right.obj rfl (Cn_at h.L.r (i := j) (by omega)) (by decide) (Nat.le_of_ble_eq_true rfl) (g_iload_1 hR dX7_firstWrong_52 (g_icmp_ne hR 60 dX7_firstWrong_53 (by decide) (by omega) (by omega) (fun c53 => ?_) (fun c53 => ?_)))))))))
          · skip
            have h53 : ¬ (Lr (AL A)).getD j 0 = d := by omega
            refine g_iconst hR dX7_firstWrong_60 (g_istore_6 hR dX7_firstWrong_61 rfl (g_iload_3 hR dX7_firstWrong_63 (g_if_eq hR 80 dX7_firstWrong_64 (by decide) (by omega) (fun c64 => ?_) (fun c64 => ?_))))
            · skip
              have hb0 : b = 0 := by omega
              refine g_iload_5 hR dX7_firstWrong_80 (g_if_eq hR 93 dX7_firstWrong_82 (by decide) (by omega) (fun c82 => ?_) (fun c82 => ?_))
              · skip
                refine g_iinc_4 hR dX7_firstWrong_93 rfl (g_goto hR 3 dX7_firstWrong_96 (by decide) ?_)
                have hc : (wrC (AL A) d m (decide (b ≠ 0))) j = false := by rw [wrC_of (decide_eq_false h30) (decide_eq_false h53), show decide (b ≠ 0) = false from decide_eq_false (fun q => q hb0)]; rfl
                rw [seekP_no (by omega) hc, show AK A - j - 1 = AK A - (j + 1) from by omega] at hs
                exact ih (AK A - (j + 1)) (by omega) (j + 1) rfl (by omega) hs _ _
              · skip
                exact absurd c82 (by decide)
            · skip
              have hb0 : ¬ b = 0 := by omega
              refine g_iload_6 hR dX7_firstWrong_67 (g_if_eq hR 93 dX7_firstWrong_69 (by decide) (by omega) (fun c69 => ?_) (fun c69 => ?_))
              · skip
                refine g_iinc_4 hR dX7_firstWrong_93 rfl (g_goto hR 3 dX7_firstWrong_96 (by decide) ?_)
                have hc : (wrC (AL A) d m (decide (b ≠ 0))) j = false := by rw [wrC_of (decide_eq_false h30) (decide_eq_false h53), show decide (b ≠ 0) = true from decide_eq_true hb0]; rfl
                rw [seekP_no (by omega) hc, show AK A - j - 1 = AK A - (j + 1) from by omega] at hs
                exact ih (AK A - (j + 1)) (by omega) (j + 1) rfl (by omega) hs _ _
              · skip
                exact absurd c69 (by decide)
          · skip
            have h53 : (Lr (AL A)).getD j 0 = d := by omega
            refine g_iconst hR dX7_firstWrong_56 (g_goto hR 61 dX7_firstWrong_57 (by decide) (g_istore_6 hR dX7_firstWrong_61 rfl (g_iload_3 hR dX7_firstWrong_63 (g_if_eq hR 80 dX7_firstWrong_64 (by decide) (by omega) (fun c64 => ?_) (fun c64 => ?_)))))
            · skip
              have hb0 : b = 0 := by omega
              refine g_iload_5 hR dX7_firstWrong_80 (g_if_eq hR 93 dX7_firstWrong_82 (by decide) (by omega) (fun c82 => ?_) (fun c82 => ?_))
              · skip
                refine g_iinc_4 hR dX7_firstWrong_93 rfl (g_goto hR 3 dX7_firstWrong_96 (by decide) ?_)
                have hc : (wrC (AL A) d m (decide (b ≠ 0))) j = false := by rw [wrC_of (decide_eq_false h30) (decide_eq_true h53), show decide (b ≠ 0) = false from decide_eq_false (fun q => q hb0)]; rfl
                rw [seekP_no (by omega) hc, show AK A - j - 1 = AK A - (j + 1) from by omega] at hs
                exact ih (AK A - (j + 1)) (by omega) (j + 1) rfl (by omega) hs _ _
              · skip
                exact absurd c82 (by decide)
            · skip
              have hb0 : ¬ b = 0 := by omega
              refine g_iload_6 hR dX7_firstWrong_67 (g_if_eq hR 93 dX7_firstWrong_69 (by decide) (by omega) (fun c69 => ?_) (fun c69 => ?_))
              · skip
                exact absurd c69 (by decide)
              · skip
                refine g_iload_5 hR dX7_firstWrong_72 (g_if_ne hR 93 dX7_firstWrong_74 (by decide) (by omega) (fun c74 => ?_) (fun c74 => ?_))
                · skip
                  exact absurd c74 (by decide)
                · skip
                  refine g_goto hR 90 dX7_firstWrong_77 (by decide) (g_iload_4 hR dX7_firstWrong_90 ?_)
                  have hc : (wrC (AL A) d m (decide (b ≠ 0))) j = true := by rw [wrC_of (decide_eq_false h30) (decide_eq_true h53), show decide (b ≠ 0) = true from decide_eq_true hb0]; rfl
                  rw [seekP_yes (by omega) hc] at hs
                  exact g_iret hR dX7_firstWrong_92 rfl hs.symm rfl
        · skip
          have h30 : (Lm (AL A)).getD j 0 &&& m = m := by omega
          refine g_iconst hR dX7_firstWrong_33 (g_goto hR 38 dX7_firstWrong_34 (by decide) (g_istore_5 hR dX7_firstWrong_38 rfl (g_aload_0 hR dX7_firstWrong_40 (g_getR hR dX7_firstWrong_41 flX7_34 (by decide) rfl rfl (g_getR hR dX7_firstWrong_44 flX7_132 sh_laid.lt sh_laid.obj rfl (g_iload_4 hR dX7_firstWrong_47 (g_callV1P hR dX7_firstWrong_49 mlX7_128 sh_laid.right.lt sh_laid.right.obj rfl (Cn_at h.L.r (i := j) (by omega)) (by decide) (Nat.le_of_ble_eq_true rfl) (g_iload_1 hR dX7_firstWrong_52 (g_icmp_ne hR 60 dX7_firstWrong_53 (by decide) (by omega) (by omega) (fun c53 => ?_) (fun c53 => ?_))))))))))
          · skip
            have h53 : ¬ (Lr (AL A)).getD j 0 = d := by omega
            refine g_iconst hR dX7_firstWrong_60 (g_istore_6 hR dX7_firstWrong_61 rfl (g_iload_3 hR dX7_firstWrong_63 (g_if_eq hR 80 dX7_firstWrong_64 (by decide) (by omega) (fun c64 => ?_) (fun c64 => ?_))))
            · skip
              have hb0 : b = 0 := by omega
              refine g_iload_5 hR dX7_firstWrong_80 (g_if_eq hR 93 dX7_firstWrong_82 (by decide) (by omega) (fun c82 => ?_) (fun c82 => ?_))
              · skip
                exact absurd c82 (by decide)
              · skip
                refine g_iload_6 hR dX7_firstWrong_85 (g_if_ne hR 93 dX7_firstWrong_87 (by decide) (by omega) (fun c87 => ?_) (fun c87 => ?_))
                · skip
                  exact absurd c87 (by decide)
                · skip
                  refine g_iload_4 hR dX7_firstWrong_90 ?_
                  have hc : (wrC (AL A) d m (decide (b ≠ 0))) j = true := by rw [wrC_of (decide_eq_true h30) (decide_eq_false h53), show decide (b ≠ 0) = false from decide_eq_false (fun q => q hb0)]; rfl
                  rw [seekP_yes (by omega) hc] at hs
                  exact g_iret hR dX7_firstWrong_92 rfl hs.symm rfl
            · skip
              have hb0 : ¬ b = 0 := by omega
              refine g_iload_6 hR dX7_firstWrong_67 (g_if_eq hR 93 dX7_firstWrong_69 (by decide) (by omega) (fun c69 => ?_) (fun c69 => ?_))
              · skip
                refine g_iinc_4 hR dX7_firstWrong_93 rfl (g_goto hR 3 dX7_firstWrong_96 (by decide) ?_)
                have hc : (wrC (AL A) d m (decide (b ≠ 0))) j = false := by rw [wrC_of (decide_eq_true h30) (decide_eq_false h53), show decide (b ≠ 0) = true from decide_eq_true hb0]; rfl
                rw [seekP_no (by omega) hc, show AK A - j - 1 = AK A - (j + 1) from by omega] at hs
                exact ih (AK A - (j + 1)) (by omega) (j + 1) rfl (by omega) hs _ _
              · skip
                exact absurd c69 (by decide)
          · skip
            have h53 : (Lr (AL A)).getD j 0 = d := by omega
            refine g_iconst hR dX7_firstWrong_56 (g_goto hR 61 dX7_firstWrong_57 (by decide) (g_istore_6 hR dX7_firstWrong_61 rfl (g_iload_3 hR dX7_firstWrong_63 (g_if_eq hR 80 dX7_firstWrong_64 (by decide) (by omega) (fun c64 => ?_) (fun c64 => ?_)))))
            · skip
              have hb0 : b = 0 := by omega
              refine g_iload_5 hR dX7_firstWrong_80 (g_if_eq hR 93 dX7_firstWrong_82 (by decide) (by omega) (fun c82 => ?_) (fun c82 => ?_))
              · skip
                exact absurd c82 (by decide)
              · skip
                refine g_iload_6 hR dX7_firstWrong_85 (g_if_ne hR 93 dX7_firstWrong_87 (by decide) (by omega) (fun c87 => ?_) (fun c87 => ?_))
                · skip
                  refine g_iinc_4 hR dX7_firstWrong_93 rfl (g_goto hR 3 dX7_firstWrong_96 (by decide) ?_)
                  have hc : (wrC (AL A) d m (decide (b ≠ 0))) j = false := by rw [wrC_of (decide_eq_true h30) (decide_eq_true h53), show decide (b ≠ 0) = false from decide_eq_false (fun q => q hb0)]; rfl
                  rw [seekP_no (by omega) hc, show AK A - j - 1 = AK A - (j + 1) from by omega] at hs
                  exact ih (AK A - (j + 1)) (by omega) (j + 1) rfl (by omega) hs _ _
                · skip
                  exact absurd c87 (by decide)
            · skip
              have hb0 : ¬ b = 0 := by omega
              refine g_iload_6 hR dX7_firstWrong_67 (g_if_eq hR 93 dX7_firstWrong_69 (by decide) (by omega) (fun c69 => ?_) (fun c69 => ?_))
              · skip
                exact absurd c69 (by decide)
              · skip
                refine g_iload_5 hR dX7_firstWrong_72 (g_if_ne hR 93 dX7_firstWrong_74 (by decide) (by omega) (fun c74 => ?_) (fun c74 => ?_))
                · skip
                  refine g_iinc_4 hR dX7_firstWrong_93 rfl (g_goto hR 3 dX7_firstWrong_96 (by decide) ?_)
                  have hc : (wrC (AL A) d m (decide (b ≠ 0))) j = false := by rw [wrC_of (decide_eq_true h30) (decide_eq_true h53), show decide (b ≠ 0) = true from decide_eq_true hb0]; rfl
                  rw [seekP_no (by omega) hc, show AK A - j - 1 = AK A - (j + 1) from by omega] at hs
                  exact ih (AK A - (j + 1)) (by omega) (j + 1) rfl (by omega) hs _ _
                · skip
                  exact absurd c74 (by decide)
  exact loop (AK A) 0 (by omega) (by omega) rfl _ _
theorem K_wrong {E : f_E} {σ : f_Mem} {A : AS} (h : InvC σ A) (ok : ASOK A) {d m b : Int} (hd : -2147483648 ≤ d ∧ d < 2147483648) (hm : -2147483648 ≤ m ∧ m < 2147483648) (hb : b = 0 ∨ b = 1) : FZ E sC mX7_wrong 12 [.ref (f_ad E 0), .int (iI d), .int (iI m), .int (iI b)] σ (sp_wrong A d m b) (fun u => InvC u A) := by
  have hK1 := ok.K1
  have hK6 := ok.K6
  have hkk : AK A = (Lm (AL A)).length := rfl
  refine FZ.intro rfl (Nat.le_of_ble_eq_true rfl) (L0 := [some (.ref (f_ad E 0)), some (.int (iI d)), some (.int (iI m)), some (.int (iI b))]) rfl (fun G hR => ?_)
  refine g_iload_1 hR dX7_wrong_0 (g_callS1P hR dX7_wrong_1 mlX7_181 (C_isDoing hd) (by decide) (Nat.le_of_ble_eq_true rfl) (g_if_eq hR 17 dX7_wrong_4 (by decide) (by split <;> omega) (fun c4 => ?_) (fun c4 => ?_)))
  · skip
    refine g_iconst hR dX7_wrong_17 ?_
    exact g_iret hR dX7_wrong_18 rfl (by unfold sp_wrong; rw [if_neg (by omega)]; skip) h
  · skip
    refine g_iload_2 hR dX7_wrong_7 (g_iconst hR dX7_wrong_8 (g_bipush hR dX7_wrong_9 (by decide) (g_callS3P hR dX7_wrong_11 mlX7_105 (C_isWithin hm (by omega) (by omega)) (by decide) (Nat.le_of_ble_eq_true rfl) (g_if_ne hR 19 dX7_wrong_14 (by decide) (by split <;> omega) (fun c14 => ?_) (fun c14 => ?_)))))
    · skip
      obtain ⟨d2, rfl⟩ : ∃ d2 : Nat, d = d2 := ⟨d.toNat, by omega⟩
      obtain ⟨m2, rfl⟩ : ∃ m2 : Nat, m = m2 := ⟨m.toNat, by omega⟩
      refine g_aload_0 hR dX7_wrong_19 (g_iload_1 hR dX7_wrong_20 (g_iload_2 hR dX7_wrong_21 (g_iload_3 hR dX7_wrong_22 (g_callV3P hR dX7_wrong_23 mlX7_242 (by decide) rfl rfl (C_firstWrong h ok (d := d2) (m := m2) (by omega) (by omega) hb) (by decide) (Nat.le_of_ble_eq_true rfl) ?_))))
      exact g_iret hR dX7_wrong_26 rfl (by unfold sp_wrong; rw [if_pos (by omega)]; rfl) h
    · skip
      refine g_iconst hR dX7_wrong_17 ?_
      exact g_iret hR dX7_wrong_18 rfl (by unfold sp_wrong; rw [if_neg (by omega)]; skip) h
