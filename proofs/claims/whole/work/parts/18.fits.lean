
section ZU
variable {ρ0 : Type} {cc : ByteArray} {own : String} {ret : Option FieldType} {D : Nat} {E : f_E} {S : f_S} {encR : ρ0 → Option Value} {post : ρ0 → f_Mem → Prop} {G : f_G} {pc : Nat} {L : f_L} {st : List Value} {σ : f_Mem}
theorem g_ishl1 (hR : Rul cc own ret D E S encR post G) {d : Nat} (hd : decode cc pc = .ok (.ishl, 1)) (hq : d < 31) (k : G (pc + 1) L (.int (iI ((1 * 2 ^ d : Nat) : Int)) :: st) σ) : G pc L (.int (iI (d : Int)) :: .int (iI 1) :: st) σ := g_ishl hR (m := 1) hd (by omega) (by have : 2 ^ d ≤ 2 ^ 30 := Nat.pow_le_pow_right (by omega) (by omega); omega) k
end ZU
def cntA (g : Nat → Option Nat) : Nat → Nat → Nat
  | 0, _ => 0
  | n + 1, d => cntA g n d + if g n = some d then 1 else 0
def mx6 (f : Nat → Nat) : Nat := max (f 0) (max (f 1) (max (f 2) (max (f 3) (max (f 4) (f 5)))))
theorem cntA_le (g : Nat → Option Nat) : ∀ n d, cntA g n d ≤ n
  | 0, d => Nat.le_refl _
  | n + 1, d => by have := cntA_le g n d; show cntA g n d + (if g n = some d then 1 else 0) ≤ n + 1; split <;> omega
theorem cntA_none {g : Nat → Option Nat} {n : Nat} (h : g n = none) : cntA g (n + 1) = cntA g n := by funext d; show cntA g n d + (if g n = some d then 1 else 0) = _; rw [h]; simp
theorem cntA_some {g : Nat → Option Nat} {n d : Nat} (h : g n = some d) (e : Nat) : cntA g (n + 1) e = if e = d then cntA g n d + 1 else cntA g n e := by
  show cntA g n e + (if g n = some e then 1 else 0) = _
  rw [h]
  by_cases q : e = d
  · subst q; simp
  · rw [if_neg q, if_neg (fun z => q (Option.some.inj z).symm)]; rfl
theorem mx6_some {g : Nat → Option Nat} {n d : Nat} (h : g n = some d) (hd : d < 6) : mx6 (cntA g (n + 1)) = max (mx6 (cntA g n)) (cntA g n d + 1) := by
  have e := cntA_some h
  unfold mx6
  rw [e 0, e 1, e 2, e 3, e 4, e 5]
  have : d = 0 ∨ d = 1 ∨ d = 2 ∨ d = 3 ∨ d = 4 ∨ d = 5 := by omega
  rcases this with rfl | rfl | rfl | rfl | rfl | rfl <;> simp <;> omega
theorem mx6_le {f : Nat → Nat} {b : Nat} (h : ∀ d, f d ≤ b) : mx6 f ≤ b := by
  have h0 := h 0; have h1 := h 1; have h2 := h 2; have h3 := h 3; have h4 := h 4; have h5 := h 5
  unfold mx6; omega
def gA (A : AS) (bits k : Nat) : Nat → Option Nat := fun i => if bits / 2 ^ i % 2 = 1 then some (does (AL A) i (Lfirst (AL A)) k (AM A).1) else none
def amn (f : Nat → Nat) : Nat → Nat × Nat
  | 0 => (0, 5)
  | n + 1 => if f n < (amn f n).2 then (n, f n) else amn f n
theorem amn_le (f : Nat → Nat) : ∀ n, (amn f n).2 ≤ 5 ∧ (amn f n).1 ≤ n
  | 0 => ⟨Nat.le_refl _, Nat.le_refl _⟩
  | n + 1 => by
    have := amn_le f n
    unfold amn; split
    · exact ⟨by show f n ≤ 5; omega, by show n ≤ n + 1; omega⟩
    · omega
def sp_ask (A : AS) (w : Int) : Int := if 0 ≤ w ∧ w ≤ 1 then (if fitsN A = 0 then -4 else if w = 0 then ((amn (fun k => mx6 (cntA (gA A (fitsN A) k) 4)) (AK A)).1 : Nat) else ((amn (fun k => mx6 (cntA (gA A (fitsN A) k) 4)) (AK A)).2 : Nat)) else -1
def bsF (f : Nat → Nat) (b : Nat) : Nat → Int × Nat
  | 0 => (-4, b)
  | n + 1 => if f n < (bsF f b n).2 then (n, f n) else bsF f b n
theorem bsF_le {f : Nat → Nat} {b m : Nat} (hf : ∀ w, f w ≤ m) (hb : b ≤ m) : ∀ n, (bsF f b n).2 ≤ m
  | 0 => hb
  | n + 1 => by
    have := bsF_le hf hb n
    unfold bsF; split
    · exact hf n
    · exact this
def lossW (A : AS) (w : Nat) : Nat := runL (AL A) (Lsort (AL A)) (Lfirst (AL A)) (Lrow (AL A)) (w :: (AM A).1)
def loss0 (A : AS) : Nat := runL (AL A) (Lsort (AL A)) (Lfirst (AL A)) (Lrow (AL A)) (AM A).1
def sp_best (A : AS) (w : Int) : Int := if 0 ≤ w ∧ w ≤ 1 then (if w = 0 then (bsF (lossW A) (loss0 A) (6 * AK A)).1 else ((bsF (lossW A) (loss0 A) (6 * AK A)).2 : Nat)) else -1
theorem runL_le {L : Les} (ok : LesOK L) (s f : Nat) : ∀ (row r : List Nat), runL L s f row r ≤ 20 * row.length
  | [], r => Nat.zero_le _
  | k :: t, r => by
    have h1 := runL_le ok s f t (dayR L s f k r)
    have h2 := lo_le ok k (does L s f k r)
    simp only [runL, List.length_cons]; omega

theorem C_speaks {E : f_E} {σ : f_Mem} {A : AS} (h : InvC σ A) (ok : ASOK A) {p d : Nat} (hp : p < 100) (hd : d < 6) : FZ E sC mX7_speaksAgainst 1 [.ref (f_ad E 0), .int (iI p), .int (iI d)] σ (if agB (Az A) p d = true then 0 else 1) (fun u => u = σ) := by
  have hlz := h.z.le
  have hz9 : ∀ v ∈ Az A, v < 60 := fun v hv => by have := ok.2.2.2.2.2.2.1 v hv; have := ok.L.rl; omega
  refine FZ.intro rfl (Nat.le_of_ble_eq_true rfl) (L0 := [some (.ref (f_ad E 0)), some (.int (iI p)), some (.int (iI d)), none, none]) rfl (fun G hR => ?_)
  refine g_iconst hR dX7_speaksAgainst_0 (g_istore_3 hR dX7_speaksAgainst_1 rfl ?_)
  have loop : ∀ (mm : Nat) (j : Nat), mm = (Az A).length - j → j ≤ (Az A).length → (∀ v ∈ (Az A).take j, v / 6 = p → v % 6 = d) → ∀ x4 : Option Value, G 2 [some (.ref (f_ad E 0)), some (.int (iI p)), some (.int (iI d)), some (.int (iI j)), x4] [] σ := by
    intro mm
    induction mm using Nat.strongRecOn with
    | ind mm ih =>
      intro j hm hj hs x4
      refine g_iload_3 hR dX7_speaksAgainst_2 (g_aload_0 hR dX7_speaksAgainst_3 (g_getR hR dX7_speaksAgainst_4 flX7_54 (by decide) rfl rfl (g_callV0P hR dX7_speaksAgainst_7 mlX7_113 sh_seen.lt sh_seen.obj rfl (Cn_size h.z) (by decide) (Nat.le_of_ble_eq_true rfl) (g_icmp_ge hR 49 dX7_speaksAgainst_10 (by decide) (by omega) (by omega) (fun c10 => ?_) (fun c10 => ?_)))))
      · skip
        refine g_iconst hR dX7_speaksAgainst_49 ?_
        have e : j = (Az A).length := by omega
        subst e
        rw [List.take_length] at hs
        exact g_zret hR dX7_speaksAgainst_50 rfl (Or.inl rfl) (by rw [if_pos (show agB (Az A) p d = true from List.all_eq_true.mpr (fun v hv => decide_eq_true (hs v hv)))]) rfl
      · skip
        have hz0 := hz9 _ (getD_mem (show j < (Az A).length from by omega))
        refine g_aload_0 hR dX7_speaksAgainst_13 (g_getR hR dX7_speaksAgainst_14 flX7_54 (by decide) rfl rfl (g_iload_3 hR dX7_speaksAgainst_17 (g_callV1P hR dX7_speaksAgainst_18 mlX7_128 sh_seen.lt sh_seen.obj rfl (Cn_at h.z (i := j) (by omega)) (by decide) (Nat.le_of_ble_eq_true rfl) (g_istore_4 hR dX7_speaksAgainst_21 rfl (g_iload_4 hR dX7_speaksAgainst_23 (g_bipush hR dX7_speaksAgainst_25 (by decide) (g_idiv hR dX7_speaksAgainst_27 (by omega) (by omega) (g_iload_1 hR dX7_speaksAgainst_28 (g_icmp_ne hR 43 dX7_speaksAgainst_29 (by decide) (by omega) (by omega) (fun c29 => ?_) (fun c29 => ?_))))))))))
        · skip
          refine g_iinc_3 hR dX7_speaksAgainst_43 rfl (g_goto hR 2 dX7_speaksAgainst_46 (by decide) ?_)
          exact ih ((Az A).length - (j + 1)) (by omega) (j + 1) rfl (by omega) (fun v hv => by
            rw [take_snoc (show j < (Az A).length from by omega)] at hv
            rcases List.mem_append.mp hv with q | q
            · exact hs v q
            · rw [List.mem_singleton.mp q]; omega) _
        · skip
          refine g_iload_4 hR dX7_speaksAgainst_32 (g_bipush hR dX7_speaksAgainst_34 (by decide) (g_irem hR dX7_speaksAgainst_36 (by omega) (by omega) (g_iload_2 hR dX7_speaksAgainst_37 (g_icmp_eq hR 43 dX7_speaksAgainst_38 (by decide) (by omega) (by omega) (fun c38 => ?_) (fun c38 => ?_)))))
          · skip
            refine g_iinc_3 hR dX7_speaksAgainst_43 rfl (g_goto hR 2 dX7_speaksAgainst_46 (by decide) ?_)
            exact ih ((Az A).length - (j + 1)) (by omega) (j + 1) rfl (by omega) (fun v hv => by
              rw [take_snoc (show j < (Az A).length from by omega)] at hv
              rcases List.mem_append.mp hv with q | q
              · exact hs v q
              · rw [List.mem_singleton.mp q]; omega) _
          · skip
            refine g_iconst hR dX7_speaksAgainst_41 ?_
            exact g_zret hR dX7_speaksAgainst_42 rfl (Or.inr rfl) (by rw [if_neg (fun q => by have := List.all_eq_true.mp q _ (getD_mem (show j < (Az A).length from by omega)); have := of_decide_eq_true this; omega)]) rfl
  exact loop (Az A).length 0 (by omega) (by omega) (fun v hv => by simp at hv) _
theorem C_canBe {E : f_E} {σ : f_Mem} {A : AS} (h : InvC σ A) (ok : ASOK A) {sq fq : Nat} (hsq : sq < 4) (hfq : fq < 6) : FZ E sC mX7_canBe 6 [.ref (f_ad E 0), .int (iI sq), .int (iI fq)] σ (if fitB A sq fq = true then 1 else 0) (fun u => LrX u 97 (some 102) ∧ Fr σ u 97 102) := by
  have hK1 := ok.K1
  have hK6 := ok.K6
  have hkk : AK A = (Lm (AL A)).length := rfl
  have hrl := ok.L.rl
  refine FZ.intro rfl (Nat.le_of_ble_eq_true rfl) (L0 := [some (.ref (f_ad E 0)), some (.int (iI sq)), some (.int (iI fq)), none, none]) rfl (fun G hR => ?_)
  refine g_aload_0 hR dX7_canBe_0 (g_getR hR dX7_canBe_1 flX7_68 (by decide) rfl rfl (g_iload_1 hR dX7_canBe_4 (g_iload_2 hR dX7_canBe_5 (g_callV2V hR dX7_canBe_6 mlX7_277 sh_lrn0.lt sh_lrn0.obj rfl (C_begin (s := sq) (f := fq) h.lx) (by decide) (Nat.le_of_ble_eq_true rfl) (fun u1 hu1 => (g_iconst hR dX7_canBe_9 (g_istore_3 hR dX7_canBe_10 rfl ?_)))))))
  have loop : ∀ (mm : Nat) (j : Nat) (u : f_Mem), mm = (Lrow (AL A)).length - j → j ≤ (Lrow (AL A)).length → Lrn u 97 (some 102) sq fq (runR (AL A) sq fq ((Lrow (AL A)).take j) []) → Fr σ u 97 102 → (∀ p, p < j → agB (Az A) p ((runD (AL A) sq fq (Lrow (AL A)) []).getD p 0) = true) → ∀ x4 : Option Value, G 11 [some (.ref (f_ad E 0)), some (.int (iI sq)), some (.int (iI fq)), some (.int (iI j)), x4] [] u := by
    intro mm
    induction mm using Nat.strongRecOn with
    | ind mm ih =>
      intro j u hm hj hN hF hs x4
      have hI := h.l0 hF hN.x
      have hwj : WOK (AL A) (runR (AL A) sq fq ((Lrow (AL A)).take j) []) := runR_ok ok.L sq fq _ _ (fun k hk => ok.L.2.2.1.2 k (List.mem_of_mem_take hk)) (fun w hw => absurd hw List.not_mem_nil)
      have hlen := runR_len (AL A) sq fq ((Lrow (AL A)).take j) []
      have htl : ((Lrow (AL A)).take j).length ≤ 10 := by rw [List.length_take]; omega
      have hnil : ([] : List Nat).length = 0 := rfl
      refine g_iload_3 hR dX7_canBe_11 (g_aload_0 hR dX7_canBe_12 (g_getR hR dX7_canBe_13 flX7_34 (by decide) rfl rfl (g_getR hR dX7_canBe_16 flX7_147 sh_laid.lt sh_laid.obj rfl (g_callV0P hR dX7_canBe_19 mlX7_113 sh_laid.row.lt sh_laid.row.obj rfl (Cn_size hI.L.row) (by decide) (Nat.le_of_ble_eq_true rfl) (g_icmp_ge hR 63 dX7_canBe_22 (by decide) (by omega) (by omega) (fun c22 => ?_) (fun c22 => ?_))))))
      · skip
        refine g_iconst hR dX7_canBe_63 ?_
        have e : j = (Lrow (AL A)).length := by omega
        subst e
        exact g_zret hR dX7_canBe_64 rfl (Or.inr rfl) (by rw [if_pos (show fitB A sq fq = true from List.all_eq_true.mpr (fun v hv => decide_eq_true (by have q1 := hs (v / 6) (ok.2.2.2.2.2.2.1 v hv); have := of_decide_eq_true (List.all_eq_true.mp q1 v hv); exact (this rfl).symm)))]) ⟨hN.x, hF⟩
      · skip
        have hj9 : j < (Lrow (AL A)).length := by omega
        have e9 := runD_get (AL A) sq fq (Lrow (AL A)) [] j hj9
        refine g_aload_0 hR dX7_canBe_25 (g_getR hR dX7_canBe_26 flX7_68 (by decide) rfl rfl (g_aload_0 hR dX7_canBe_29 (g_getR hR dX7_canBe_30 flX7_34 (by decide) rfl rfl (g_getR hR dX7_canBe_33 flX7_147 sh_laid.lt sh_laid.obj rfl (g_iload_3 hR dX7_canBe_36 (g_callV1P hR dX7_canBe_37 mlX7_128 sh_laid.row.lt sh_laid.row.obj rfl (Cn_at hI.L.row (i := j) (by omega)) (by decide) (Nat.le_of_ble_eq_true rfl) (g_callV1Z hR dX7_canBe_40 mlX7_198 sh_lrn0.lt sh_lrn0.obj rfl (C_day hN hI.L ok.L hwj hsq hfq (by omega) (by omega) (ok.L.rk hj9)) (by decide) (Nat.le_of_ble_eq_true rfl) (fun u1 hu1 => ?_))))))))
        have hIu := hI.l0 hu1.2 hu1.1.x
        refine g_istore_4 hR dX7_canBe_43 rfl (g_aload_0 hR dX7_canBe_45 (g_iload_3 hR dX7_canBe_46 (g_iload_4 hR dX7_canBe_47 (g_callV2P hR dX7_canBe_49 mlX7_287 (by decide) rfl rfl (C_speaks hIu ok (p := j) (d := does (AL A) sq fq ((Lrow (AL A)).getD j 0) (runR (AL A) sq fq ((Lrow (AL A)).take j) [])) (by omega) (does_lt _ _ hfq _ _)) (by decide) (Nat.le_of_ble_eq_true rfl) (g_if_eq hR 57 dX7_canBe_52 (by decide) (by split <;> omega) (fun c52 => ?_) (fun c52 => ?_))))))
        · skip
          have hyes : agB (Az A) j (does (AL A) sq fq ((Lrow (AL A)).getD j 0) (runR (AL A) sq fq ((Lrow (AL A)).take j) [])) = true := by
            cases q : agB (Az A) j (does (AL A) sq fq ((Lrow (AL A)).getD j 0) (runR (AL A) sq fq ((Lrow (AL A)).take j) [])) with
            | true => rfl
            | false => rw [if_neg (by rw [q]; decide)] at c52; omega
          refine g_iinc_3 hR dX7_canBe_57 rfl (g_goto hR 11 dX7_canBe_60 (by decide) ?_)
          have e := runR_snoc (AL A) sq fq ((Lrow (AL A)).getD j 0) ((Lrow (AL A)).take j) []
          rw [← take_snoc hj9] at e
          have hN2 := hu1.1
          rw [← e] at hN2
          exact ih ((Lrow (AL A)).length - (j + 1)) (by omega) (j + 1) u1 rfl (by omega) hN2 (hF.tr hu1.2) (fun p hp => by
            by_cases q : p < j
            · exact hs p q
            · rw [show p = j from by omega, e9]; exact hyes) _
        · skip
          have hno : agB (Az A) j (does (AL A) sq fq ((Lrow (AL A)).getD j 0) (runR (AL A) sq fq ((Lrow (AL A)).take j) [])) = false := by
            cases q : agB (Az A) j (does (AL A) sq fq ((Lrow (AL A)).getD j 0) (runR (AL A) sq fq ((Lrow (AL A)).take j) [])) with
            | false => rfl
            | true => rw [if_pos q] at c52; omega
          refine g_iconst hR dX7_canBe_55 ?_
          exact g_zret hR dX7_canBe_56 rfl (Or.inl rfl) (by rw [if_neg (fun q => by
          have q2 : agB (Az A) j (does (AL A) sq fq ((Lrow (AL A)).getD j 0) (runR (AL A) sq fq ((Lrow (AL A)).take j) [])) = true := List.all_eq_true.mpr (fun v hv => decide_eq_true (fun hp => by have := of_decide_eq_true (List.all_eq_true.mp q v hv); rw [hp, e9] at this; exact this.symm))
          rw [hno] at q2; cases q2)]) ⟨hu1.1.x, hF.tr hu1.2⟩
  exact loop (Lrow (AL A)).length 0 u1 (by omega) (by omega) hu1.1 hu1.2 (fun p hp => by omega) _

theorem ifB {b : Bool} (h : (if b = true then (1 : Int) else 0) = 0) : b = false := by
  cases b with
  | false => rfl
  | true => simp at h
theorem ifB1 {b : Bool} (h : (if b = true then (1 : Int) else 0) ≠ 0) : b = true := by
  cases b with
  | true => rfl
  | false => simp at h

theorem K_fits {E : f_E} {σ : f_Mem} {A : AS} (h : InvC σ A) (ok : ASOK A) : FZ E sC mX7_fits 11 [.ref (f_ad E 0)] σ (sp_fits A) (fun u => InvC u A) := by
  refine FZ.intro rfl (Nat.le_of_ble_eq_true rfl) (L0 := [some (.ref (f_ad E 0)), none, none]) rfl (fun G hR => ?_)
  refine g_iconst hR dX7_fits_0 (g_istore_1 hR dX7_fits_1 rfl (g_iconst hR dX7_fits_2 (g_istore_2 hR dX7_fits_3 rfl ?_)))
  have loop : ∀ (mm : Nat) (j : Nat) (u : f_Mem), mm = 4 - j → j ≤ 4 → InvC u A → G 4 [some (.ref (f_ad E 0)), some (.int (iI (bitsF (fun s => fitB A s (Lfirst (AL A))) j : Nat))), some (.int (iI j))] [] u := by
    intro mm
    induction mm using Nat.strongRecOn with
    | ind mm ih =>
      intro j u hm hj hI
      refine g_iload_2 hR dX7_fits_4 (g_iconst hR dX7_fits_5 (g_icmp_ge hR 36 dX7_fits_6 (by decide) (by omega) (by omega) (fun c6 => ?_) (fun c6 => ?_)))
      · skip
        refine g_iload_1 hR dX7_fits_36 ?_
        have e : j = 4 := by omega
        subst e
        exact g_iret hR dX7_fits_37 rfl rfl hI
      · skip
        refine g_aload_0 hR dX7_fits_9 (g_iload_2 hR dX7_fits_10 (g_aload_0 hR dX7_fits_11 (g_getR hR dX7_fits_12 flX7_34 (by decide) rfl rfl (g_getI hR _ dX7_fits_15 flX7_223 sh_laid.lt sh_laid.obj rfl hI.L.first (g_callV2Z hR dX7_fits_18 mlX7_226 (by decide) rfl rfl (C_canBe hI ok (sq := j) (by omega) ok.L.f) (by decide) (Nat.le_of_ble_eq_true rfl) (fun u1 hu1 => ?_))))))
        have hI2 := hI.l0 hu1.2 hu1.1
        refine g_if_eq hR 30 dX7_fits_21 (by decide) (by split <;> omega) (fun c21 => ?_) (fun c21 => ?_)
        · skip
          refine g_iinc_2 hR dX7_fits_30 rfl (g_goto hR 4 dX7_fits_33 (by decide) ?_)
          have hb : fitB A j (Lfirst (AL A)) = false := ifB c21
          have e : bitsF (fun s => fitB A s (Lfirst (AL A))) (j + 1) = bitsF (fun s => fitB A s (Lfirst (AL A))) j := by simp only [bitsF]; rw [if_neg (Bool.eq_false_iff.mp hb)]
          have h9 := ih (4 - (j + 1)) (by omega) (j + 1) u1 rfl (by omega) hI2
          rw [e] at h9
          exact h9
        · skip
          refine g_iload_1 hR dX7_fits_24 (g_iconst hR dX7_fits_25 (g_iload_2 hR dX7_fits_26 (g_ishl1 hR dX7_fits_27 (by omega) (g_ior hR dX7_fits_28 (g_istore_1 hR dX7_fits_29 rfl (g_iinc_2 hR dX7_fits_30 rfl (g_goto hR 4 dX7_fits_33 (by decide) ?_)))))))
          have hb : fitB A j (Lfirst (AL A)) = true := ifB1 c21
          have e : bitsF (fun s => fitB A s (Lfirst (AL A))) (j + 1) = bitsF (fun s => fitB A s (Lfirst (AL A))) j ||| (1 * 2 ^ j) := by simp only [bitsF]; rw [if_pos hb]
          have h9 := ih (4 - (j + 1)) (by omega) (j + 1) u1 rfl (by omega) hI2
          rw [e] at h9
          exact h9
  exact loop 4 0 σ (by omega) (by omega) h
theorem K_firsts {E : f_E} {σ : f_Mem} {A : AS} (h : InvC σ A) (ok : ASOK A) {s : Int} (hs : -2147483648 ≤ s ∧ s < 2147483648) : FZ E sC mX7_firsts 12 [.ref (f_ad E 0), .int (iI s)] σ (sp_firsts A s) (fun u => InvC u A) := by
  refine FZ.intro rfl (Nat.le_of_ble_eq_true rfl) (L0 := [some (.ref (f_ad E 0)), some (.int (iI s)), none, none]) rfl (fun G hR => ?_)
  refine g_iload_1 hR dX7_firsts_0 (g_callS1P hR dX7_firsts_1 mlX7_157 (C_isSort hs) (by decide) (Nat.le_of_ble_eq_true rfl) (g_if_ne hR 9 dX7_firsts_4 (by decide) (by split <;> omega) (fun c4 => ?_) (fun c4 => ?_)))
  · skip
    obtain ⟨sq, rfl⟩ : ∃ sq : Nat, s = sq := ⟨s.toNat, by omega⟩
    refine g_iconst hR dX7_firsts_9 (g_istore_2 hR dX7_firsts_10 rfl (g_iconst hR dX7_firsts_11 (g_istore_3 hR dX7_firsts_12 rfl ?_)))
    have loop : ∀ (mm : Nat) (j : Nat) (u : f_Mem), mm = 6 - j → j ≤ 6 → InvC u A → G 13 [some (.ref (f_ad E 0)), some (.int (iI sq)), some (.int (iI (bitsF (fun f => fitB A sq f) j : Nat))), some (.int (iI j))] [] u := by
      intro mm
      induction mm using Nat.strongRecOn with
      | ind mm ih =>
        intro j u hm hj hI
        refine g_iload_3 hR dX7_firsts_13 (g_bipush hR dX7_firsts_14 (by decide) (g_icmp_ge hR 40 dX7_firsts_16 (by decide) (by omega) (by omega) (fun c16 => ?_) (fun c16 => ?_)))
        · skip
          refine g_iload_2 hR dX7_firsts_40 ?_
          have e : j = 6 := by omega
          subst e
          exact g_iret hR dX7_firsts_41 rfl (by unfold sp_firsts; rw [if_pos (by omega)]; rfl) hI
        · skip
          refine g_aload_0 hR dX7_firsts_19 (g_iload_1 hR dX7_firsts_20 (g_iload_3 hR dX7_firsts_21 (g_callV2Z hR dX7_firsts_22 mlX7_226 (by decide) rfl rfl (C_canBe hI ok (sq := sq) (fq := j) (by omega) (by omega)) (by decide) (Nat.le_of_ble_eq_true rfl) (fun u1 hu1 => ?_))))
          have hI2 := hI.l0 hu1.2 hu1.1
          refine g_if_eq hR 34 dX7_firsts_25 (by decide) (by split <;> omega) (fun c25 => ?_) (fun c25 => ?_)
          · skip
            refine g_iinc_3 hR dX7_firsts_34 rfl (g_goto hR 13 dX7_firsts_37 (by decide) ?_)
            have hb : fitB A sq j = false := ifB c25
            have e : bitsF (fun f => fitB A sq f) (j + 1) = bitsF (fun f => fitB A sq f) j := by simp only [bitsF]; rw [if_neg (Bool.eq_false_iff.mp hb)]
            have h9 := ih (6 - (j + 1)) (by omega) (j + 1) u1 rfl (by omega) hI2
            rw [e] at h9
            exact h9
          · skip
            refine g_iload_2 hR dX7_firsts_28 (g_iconst hR dX7_firsts_29 (g_iload_3 hR dX7_firsts_30 (g_ishl1 hR dX7_firsts_31 (by omega) (g_ior hR dX7_firsts_32 (g_istore_2 hR dX7_firsts_33 rfl (g_iinc_3 hR dX7_firsts_34 rfl (g_goto hR 13 dX7_firsts_37 (by decide) ?_)))))))
            have hb : fitB A sq j = true := ifB1 c25
            have e : bitsF (fun f => fitB A sq f) (j + 1) = bitsF (fun f => fitB A sq f) j ||| (1 * 2 ^ j) := by simp only [bitsF]; rw [if_pos hb]
            have h9 := ih (6 - (j + 1)) (by omega) (j + 1) u1 rfl (by omega) hI2
            rw [e] at h9
            exact h9
    exact loop 6 0 σ (by omega) (by omega) h
  · skip
    refine g_iconst hR dX7_firsts_7 ?_
    exact g_iret hR dX7_firsts_8 rfl (by unfold sp_firsts; rw [if_neg (by omega)]; skip) h

theorem InvC.al {σ u : f_Mem} {A : AS} (h : InvC σ A) (hf : Fr σ u 95 97) (ha : ∃ l, Num u 95 6 l) : InvC u A := by
  refine h.scr (hf.mono (by omega) (by omega)) ?_
  obtain ⟨⟨L, h1⟩, ⟨l2, h2⟩, ⟨l3, h3⟩, -, h5, ⟨l6, h6⟩, ⟨l7, h7⟩, ⟨l8, h8⟩⟩ := h.s
  exact ⟨⟨L, h1.fr hf (by omega)⟩, ⟨l2, h2.fr hf (by omega)⟩, ⟨l3, h3.fr hf (by omega)⟩, ha, fun j hj => (h5 j hj).fr hf (by omega), ⟨l6, h6.fr hf (by omega)⟩, ⟨l7, h7.fr hf (by omega)⟩, ⟨l8, h8.fr hf (by omega)⟩⟩
theorem InvC.tm {σ u : f_Mem} {A : AS} (h : InvC σ A) (hf : Fr σ u 93 95) (ha : ∃ l, Num u 93 60 l) : InvC u A := by
  refine h.scr (hf.mono (by omega) (by omega)) ?_
  obtain ⟨⟨L, h1⟩, ⟨l2, h2⟩, -, ⟨l4, h4⟩, h5, ⟨l6, h6⟩, ⟨l7, h7⟩, ⟨l8, h8⟩⟩ := h.s
  exact ⟨⟨L, h1.fr hf (by omega)⟩, ⟨l2, h2.fr hf (by omega)⟩, ha, ⟨l4, h4.fr hf (by omega)⟩, fun j hj => (h5 j hj).fr hf (by omega), ⟨l6, h6.fr hf (by omega)⟩, ⟨l7, h7.fr hf (by omega)⟩, ⟨l8, h8.fr hf (by omega)⟩⟩

theorem C_mostAlike {E : f_E} {σ : f_Mem} {A : AS} (h : InvC σ A) (ok : ASOK A) {bits k : Nat} (hb : bits < 16) (hk : k < AK A) : FZ E sC mX7_mostAlike 6 [.ref (f_ad E 0), .int (iI bits), .int (iI k)] σ (mx6 (cntA (gA A bits k) 4) : Nat) (fun u => InvC u A) := by
  have hK1 := ok.K1
  have hK6 := ok.K6
  have hkk : AK A = (Lm (AL A)).length := rfl
  have hwl := ok.wl
  refine FZ.intro rfl (Nat.le_of_ble_eq_true rfl) (L0 := [some (.ref (f_ad E 0)), some (.int (iI bits)), some (.int (iI k)), none, none, none]) rfl (fun G hR => ?_)
  obtain ⟨al, hal⟩ := h.s.2.2.2.1
  refine g_iconst hR dX7_mostAlike_0 (g_istore_3 hR dX7_mostAlike_1 rfl (g_aload_0 hR dX7_mostAlike_2 (g_getR hR dX7_mostAlike_3 flX7_60 (by decide) rfl rfl (g_bipush hR dX7_mostAlike_6 (by decide) (g_iconst hR dX7_mostAlike_8 (g_callV2V hR dX7_mostAlike_9 mlX7_290 sh_alike.lt sh_alike.obj rfl (Cn_fill hal (k := 6) (v := 0) (by omega)) (by decide) (Nat.le_of_ble_eq_true rfl) (fun u1 hu1 => ?_)))))))
  have hA1 := hu1.1
  rw [map6_rep] at hA1
  have hF1 : Fr σ u1 93 144 := hu1.2.mono (by omega) (by omega)
  have hI1 : InvC u1 A := h.al hu1.2 ⟨_, hu1.1⟩
  refine g_iconst hR dX7_mostAlike_12 (g_istore_4 hR dX7_mostAlike_13 rfl ?_)
  have loop : ∀ (mm : Nat) (j : Nat) (u : f_Mem), mm = 4 - j → j ≤ 4 → InvC u A → Num u 95 6 ((List.range 6).map (cntA (gA A bits k) j)) → ∀ x5 : Option Value, G 15 [some (.ref (f_ad E 0)), some (.int (iI bits)), some (.int (iI k)), some (.int (iI (mx6 (cntA (gA A bits k) j) : Nat))), some (.int (iI j)), x5] [] u := by
    intro mm
    induction mm using Nat.strongRecOn with
    | ind mm ih =>
      intro j u hm hj hI hA x5
      refine g_iload_4 hR dX7_mostAlike_15 (g_iconst hR dX7_mostAlike_17 (g_icmp_ge hR 83 dX7_mostAlike_18 (by decide) (by omega) (by omega) (fun c18 => ?_) (fun c18 => ?_)))
      · skip
        refine g_iload_3 hR dX7_mostAlike_83 ?_
        have e : j = 4 := by omega
        subst e
        exact g_iret hR dX7_mostAlike_84 rfl rfl hI
      · skip
        refine g_iload_1 hR dX7_mostAlike_21 (g_iload_4 hR dX7_mostAlike_22 (g_ishr hR dX7_mostAlike_24 (by omega) (by omega) (g_iconst hR dX7_mostAlike_25 (g_iand1 hR dX7_mostAlike_26 (g_iconst hR dX7_mostAlike_27 (g_icmp_ne hR 77 dX7_mostAlike_28 (by decide) (by omega) (by omega) (fun c28 => ?_) (fun c28 => ?_)))))))
        · skip
          refine g_iinc_4 hR dX7_mostAlike_77 rfl (g_goto hR 15 dX7_mostAlike_80 (by decide) ?_)
          have hg : gA A bits k j = none := by unfold gA; rw [if_neg (by omega)]
          have h9 := ih (4 - (j + 1)) (by omega) (j + 1) u rfl (by omega) hI (by rw [cntA_none hg]; exact hA)
          rw [cntA_none hg] at h9
          exact h9 _
        · skip
          refine g_aload_0 hR dX7_mostAlike_31 (g_iload_4 hR dX7_mostAlike_32 (g_callV1R hR dX7_mostAlike_34 mlX7_160 (by decide) rfl rfl (C_learnerNow hI ok (s := j) (by omega)) (by decide) (Nat.le_of_ble_eq_true rfl) (fun u1 hu1 => ?_)))
          have hIu := hI.l0 hu1.2 hu1.1.x
          have hAu := hA.fr hu1.2 (by omega)
          have hd := does_lt (AL A) j ok.L.f k (AM A).1
          refine g_iload_2 hR dX7_mostAlike_37 (g_callV1P hR dX7_mostAlike_38 mlX7_164 sh_lrn0.lt sh_lrn0.obj rfl (C_willDo hu1.1 hIu.L ok.L ok.w (by omega) ok.L.f (by omega) hk) (by decide) (Nat.le_of_ble_eq_true rfl) (g_istore_5 hR dX7_mostAlike_41 rfl (g_aload_0 hR dX7_mostAlike_43 (g_getR hR dX7_mostAlike_44 flX7_60 (by decide) rfl rfl (g_iload_5 hR dX7_mostAlike_47 (g_aload_0 hR dX7_mostAlike_49 (g_getR hR dX7_mostAlike_50 flX7_60 (by decide) rfl rfl (g_iload_5 hR dX7_mostAlike_53 (g_callV1P hR dX7_mostAlike_55 mlX7_128 sh_alike.lt sh_alike.obj rfl (map6_get (cntA (gA A bits k) j) hd ▸ Cn_at hAu (i := does (AL A) j (Lfirst (AL A)) k (AM A).1) (by omega)) (by decide) (Nat.le_of_ble_eq_true rfl) (g_iconst hR dX7_mostAlike_58 (g_iadd hR dX7_mostAlike_59 (g_callV2V hR dX7_mostAlike_60 mlX7_293 sh_alike.lt sh_alike.obj rfl (Cn_put hAu (i := does (AL A) j (Lfirst (AL A)) k (AM A).1) (v := cntA (gA A bits k) j (does (AL A) j (Lfirst (AL A)) k (AM A).1) + 1) (by simp; omega)) (by decide) (Nat.le_of_ble_eq_true rfl) (fun u2 hu2 => ?_)))))))))))))
          have hg : gA A bits k j = some (does (AL A) j (Lfirst (AL A)) k (AM A).1) := by unfold gA; rw [if_pos (by omega)]
          have hA2 := hu2.1
          rw [map6_set (cntA (gA A bits k) j) (cntA (gA A bits k) (j + 1)) hd (by rw [cntA_some hg, if_pos rfl]) (fun e he => by rw [cntA_some hg, if_neg he])] at hA2
          have hm9 := mx6_le (cntA_le (gA A bits k) j)
          have hm8 := cntA_le (gA A bits k) (j + 1) (does (AL A) j (Lfirst (AL A)) k (AM A).1)
          refine g_iload_3 hR dX7_mostAlike_63 (g_aload_0 hR dX7_mostAlike_64 (g_getR hR dX7_mostAlike_65 flX7_60 (by decide) rfl rfl (g_iload_5 hR dX7_mostAlike_68 (g_callV1P hR dX7_mostAlike_70 mlX7_128 sh_alike.lt sh_alike.obj rfl (map6_get (cntA (gA A bits k) (j + 1)) hd ▸ Cn_at hA2 (i := does (AL A) j (Lfirst (AL A)) k (AM A).1) (by omega)) (by decide) (Nat.le_of_ble_eq_true rfl) (g_max hR dX7_mostAlike_73 mlX7_296 (by decide) (Nat.le_of_ble_eq_true rfl) (by omega) (by omega) (g_istore_3 hR dX7_mostAlike_76 rfl (g_iinc_4 hR dX7_mostAlike_77 rfl (g_goto hR 15 dX7_mostAlike_80 (by decide) ?_))))))))
          have h9 := ih (4 - (j + 1)) (by omega) (j + 1) u2 rfl (by omega) (hIu.al hu2.2 ⟨_, hu2.1⟩) hA2
          rw [mx6_some hg hd] at h9
          have e8 : cntA (gA A bits k) (j + 1) (does (AL A) j (Lfirst (AL A)) k (AM A).1) = cntA (gA A bits k) j (does (AL A) j (Lfirst (AL A)) k (AM A).1) + 1 := by rw [cntA_some hg, if_pos rfl]
          rw [e8]
          have e7 : ∀ a b : Nat, ((max a b : Nat) : Int) = max (a : Int) (b : Int) := fun a b => by omega
          rw [e7] at h9
          exact h9 _
  exact loop 4 0 u1 (by omega) (by omega) hI1 hA1 _
