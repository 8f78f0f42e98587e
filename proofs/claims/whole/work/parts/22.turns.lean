
def maxN (g : Nat → Nat) : Nat → Nat
  | 0 => 0
  | n + 1 => max (maxN g n) (g n)
def minN (g : Nat → Nat) (a : Nat) : Nat → Nat
  | 0 => a
  | n + 1 => min (minN g a n) (g n)
def oG (L : Les) (s f : Nat) (m : List Nat → Nat) (r : List Nat) (k : Nat) : Nat := lo L k (does L s f k r) + m (dayR L s f k r)
def oS (L : Les) (s f : Nat) (m : List Nat → Nat) (r : List Nat) : Nat := maxN (oG L s f m r) (Lm L).length
def mS (L : Les) (s f : Nat) : Nat → List Nat → Nat
  | 0, _ => 0
  | n + 1, r => minN (fun w => oS L s f (mS L s f n) (w :: r)) (oS L s f (mS L s f n) r) (6 * (Lm L).length)
theorem maxN_le {g : Nat → Nat} {B : Nat} (h : ∀ k, g k ≤ B) : ∀ n, maxN g n ≤ B
  | 0 => Nat.zero_le _
  | n + 1 => by have h1 := maxN_le h n; have h2 := h n; simp only [maxN]; omega
theorem maxN_mono (g : Nat → Nat) {a b : Nat} (h : a ≤ b) : maxN g a ≤ maxN g b := by
  induction b with
  | zero => rw [show a = 0 from by omega]; exact Nat.le_refl _
  | succ b ih =>
    by_cases q : a ≤ b
    · have := ih q; simp only [maxN]; omega
    · rw [show a = b + 1 from by omega]; exact Nat.le_refl _
theorem minN_mono (g : Nat → Nat) (x : Nat) {a b : Nat} (h : a ≤ b) : minN g x b ≤ minN g x a := by
  induction b with
  | zero => rw [show a = 0 from by omega]; exact Nat.le_refl _
  | succ b ih =>
    by_cases q : a ≤ b
    · have := ih q; simp only [minN]; omega
    · rw [show a = b + 1 from by omega]; exact Nat.le_refl _
theorem minN_le (g : Nat → Nat) (x : Nat) (n : Nat) : minN g x n ≤ x := minN_mono g x (Nat.zero_le n)
theorem oS_le {L : Les} (ok : LesOK L) (s f : Nat) {m : List Nat → Nat} {B : Nat} (h : ∀ r, m r ≤ B) (r : List Nat) : oS L s f m r ≤ 20 + B := maxN_le (fun k => by
  have h1 := lo_le ok k (does L s f k r)
  have h2 := h (dayR L s f k r)
  unfold oG; omega) _
theorem mS_le {L : Les} (ok : LesOK L) (s f : Nat) : ∀ n r, mS L s f n r ≤ 20 * n
  | 0, r => by simp [mS]
  | n + 1, r => by
    have h1 := oS_le ok s f (mS_le ok s f n) r
    have h2 := minN_le (fun w => oS L s f (mS L s f n) (w :: r)) (oS L s f (mS L s f n) r) (6 * (Lm L).length)
    simp only [mS]; omega
def sp_byTurns (A : AS) (n : Int) : Int := if 0 ≤ n ∧ n ≤ 2 then (mS (AL A) (Lsort (AL A)) (Lfirst (AL A)) n.toNat (AM A).1 : Nat) else -1
/-- an int of which we know something -/
def FX (E : f_E) (S : f_S) (Y : f_Y) (d : Nat) (av : List Value) (σ : f_Mem) (Q : Nat → f_Mem → Prop) : Prop := FM E S Y d av σ eI (fun r u => ∃ v : Nat, r = iI v ∧ Q v u)
theorem FX.intro {D : Nat} {E : f_E} {S : f_S} {σ : f_Mem} {Y : f_Y} {av : List Value} {Q : Nat → f_Mem → Prop} (hy : plainName Y.1.cls = true) (hn : (lg_sl av).length ≤ Y.2.2.1) {L0 : f_L} (hL0 : f_L0 Y.2.2.1 av = L0) (h : ∀ G : f_G, Rul Y.2.1 Y.1.cls Y.2.2.2 D E S eI (fun r u => ∃ v : Nat, r = iI v ∧ Q v u) G → G 0 L0 [] σ) : FX E S Y D av σ Q := FM.intro hy hn hL0 h
section ZX
variable {ρ0 : Type} {cc : ByteArray} {own : String} {ret : Option FieldType} {D : Nat} {E : f_E} {S : f_S} {encR : ρ0 → Option Value} {post : ρ0 → f_Mem → Prop} {G : f_G} {pc : Nat} {L : f_L} {st : List Value} {σ : f_Mem}
theorem g_iretX {z : Int} {Q : Nat → f_Mem → Prop} (hR : Rul cc own ret D E S eI (fun r u => ∃ v : Nat, r = iI v ∧ Q v u) G) (hd : decode cc pc = .ok (.ireturn, 1)) (hr : ret = some .int) (hz : ∃ v : Nat, z = v ∧ Q v σ) : G pc L [.int (iI z)] σ := by
  obtain ⟨v, e, q⟩ := hz
  exact k_iret hR pc L σ (iI z) .int hd hr rfl ⟨iI z, rfl, v, by rw [e], q⟩
theorem g_callS4X (hR : Rul cc own ret D E S encR post G) {i d : Nat} {Y : f_Y} {a1 a2 a3 a4 : Value} {Q : Nat → f_Mem → Prop} (hd : decode cc pc = .ok (.invokestatic i, 3)) (hl : f_LS own i Y 4) (hM : FX E S Y d [a1, a2, a3, a4] σ Q) (hD : d + 1 ≤ D) (hr : (st.map fun v => v.category).sum ≤ 8) (kk : ∀ (v : Nat) u, Q v u → G (pc + 3) L (.int (iI (v : Int)) :: st) u) : G pc L (a4 :: a3 :: a2 :: a1 :: st) σ := k_callS hR _ pc L st [a1, a2, a3, a4] σ i d Y _ _ hd hl hM hD hr (fun r u h => by obtain ⟨v, rfl, h⟩ := h; exact kk v u h)
end ZX
def PCh (σ : f_Mem) (j : Nat) (u : f_Mem) : Prop := Fr σ u (97 + 5 * (j + 1)) 137 ∧ Chn u j
theorem PCh.tr {σ u t : f_Mem} {j : Nat} (h : Fr σ u (97 + 5 * (j + 1)) 137) (h2 : PCh u j t) : PCh σ j t := ⟨h.tr h2.1, h2.2⟩
/-- what is done one learner below, seen from him who stands here -/
theorem PCh.low {σ u t : f_Mem} {j s f : Nat} {r : List Nat} (h : Fr σ u (97 + 5 * (j + 1)) 137) (hx : Lrn u (97 + 5 * (j + 1)) (lrnB (j + 1)) s f r) (h2 : PCh u (j + 1) t) : PCh σ j t :=
  ⟨h.tr (h2.1.mono (by omega) (by omega)), h2.2.up (hx.x.fr h2.1 (by omega))⟩
def MTc (E : f_E) (L : Les) (s f n : Nat) : Prop := ∀ (σ : f_Mem) (j : Nat) (r : List Nat) (e : Nat), Lrn σ (97 + 5 * j) (lrnB j) s f r → Chn σ j → Lsn σ 19 L → WOK L r → r.length + 2 * n < 800000 → j + 2 * n ≤ 7 → e ≤ 1000000 → FX E sC mX7_lossAtMothersTurn (2 * n + 7) [.ref (f_ad E 19), .ref (f_ad E (97 + 5 * j)), .int (iI n), .int (iI e)] σ (fun v u => (mS L s f n r ≤ v ∧ v ≤ 1000 ∧ (v = mS L s f n r ∨ v ≤ e)) ∧ PCh σ j u)
def OTc (E : f_E) (L : Les) (s f n : Nat) : Prop := ∀ (σ : f_Mem) (j : Nat) (r : List Nat) (e : Nat), Lrn σ (97 + 5 * j) (lrnB j) s f r → Chn σ j → Lsn σ 19 L → WOK L r → r.length + 2 * n + 1 < 800000 → j + 2 * n + 1 ≤ 7 → e ≤ 1000000 → FX E sC mX7_lossAtOthersTurn (2 * n + 8) [.ref (f_ad E 19), .ref (f_ad E (97 + 5 * j)), .int (iI (n + 1 : Nat)), .int (iI e)] σ (fun v u => (v ≤ oS L s f (mS L s f n) r ∧ (v = oS L s f (mS L s f n) r ∨ e ≤ v)) ∧ PCh σ j u)

theorem C_mot0 {E : f_E} {σ : f_Mem} {L : Les} {s f j e : Nat} {r : List Nat} (h : Lrn σ (97 + 5 * j) (lrnB j) s f r) (hc : Chn σ j) : FX E sC mX7_lossAtMothersTurn (2 * 0 + 7) [.ref (f_ad E 19), .ref (f_ad E (97 + 5 * j)), .int (iI (0 : Nat)), .int (iI e)] σ (fun v u => (mS L s f 0 r ≤ v ∧ v ≤ 1000 ∧ (v = mS L s f 0 r ∨ v ≤ e)) ∧ PCh σ j u) := by
  refine FX.intro rfl (Nat.le_of_ble_eq_true rfl) (L0 := [some (.ref (f_ad E 19)), some (.ref (f_ad E (97 + 5 * j))), some (.int (iI (0 : Nat))), some (.int (iI e)), none, none, none]) rfl (fun G hR => ?_)
  refine g_iload_2 hR dX7_lossAtMothersTurn_0 (g_if_gt hR 6 dX7_lossAtMothersTurn_1 (by decide) (by omega) (fun c1 => ?_) (fun c1 => ?_))
  · skip
    exact absurd c1 (by omega)
  · skip
    refine g_iconst hR dX7_lossAtMothersTurn_4 ?_
    exact g_iretX hR dX7_lossAtMothersTurn_5 rfl ⟨0, rfl, ⟨Nat.le_refl _, by omega, Or.inl rfl⟩, Fr.rf, hc⟩
theorem C_oth {E : f_E} {σ : f_Mem} {L : Les} {s f : Nat} (ok : LesOK L) (hs : s < 4) (hf : f < 6) {n : Nat} (hM : MTc E L s f n) {j e : Nat} {r : List Nat} (h : Lrn σ (97 + 5 * j) (lrnB j) s f r) (hc : Chn σ j) (hL : Lsn σ 19 L) (hw : WOK L r) (he : e ≤ 1000000) (hr : r.length + 2 * n + 1 < 800000) (hj : j + 2 * n + 1 ≤ 7) : FX E sC mX7_lossAtOthersTurn (2 * n + 8) [.ref (f_ad E 19), .ref (f_ad E (97 + 5 * j)), .int (iI (n + 1 : Nat)), .int (iI e)] σ (fun v u => (v ≤ oS L s f (mS L s f n) r ∧ (v = oS L s f (mS L s f n) r ∨ e ≤ v)) ∧ PCh σ j u) := by
  have hK6 := ok.k
  refine FX.intro rfl (Nat.le_of_ble_eq_true rfl) (L0 := [some (.ref (f_ad E 19)), some (.ref (f_ad E (97 + 5 * j))), some (.int (iI (n + 1 : Nat))), some (.int (iI e)), none, none, none, none]) rfl (fun G hR => ?_)
  refine g_iconst hR dX7_lossAtOthersTurn_0 (g_istore_4 hR dX7_lossAtOthersTurn_1 rfl (g_iconst hR dX7_lossAtOthersTurn_3 (g_istore_5 hR dX7_lossAtOthersTurn_4 rfl ?_)))
  have loop : ∀ (mm : Nat) (k : Nat) (u : f_Mem), mm = (Lm L).length - k → k ≤ (Lm L).length → PCh σ j u → ∀ x6 x7 : Option Value, G 6 [some (.ref (f_ad E 19)), some (.ref (f_ad E (97 + 5 * j))), some (.int (iI (n + 1 : Nat))), some (.int (iI e)), some (.int (iI (maxN (oG L s f (mS L s f n) r) k : Nat))), some (.int (iI k)), x6, x7] [] u := by
    intro mm
    induction mm using Nat.strongRecOn with
    | ind mm ih =>
      intro k u hm hk hP x6 x7
      have hN := h.fr hP.1 (by omega)
      have hLu := hL.fr hP.1 (by omega)
      have hmx : maxN (oG L s f (mS L s f n) r) k ≤ 20 + 20 * n := Nat.le_trans (maxN_mono _ hk) (oS_le ok s f (mS_le ok s f n) r)
      refine g_iload_5 hR dX7_lossAtOthersTurn_6 (g_aload_0 hR dX7_lossAtOthersTurn_8 (g_callV0P hR dX7_lossAtOthersTurn_9 mlX7_116 sh_laid.lt sh_laid.obj rfl (C_kinds hLu) (by omega) (Nat.le_of_ble_eq_true rfl) (g_icmp_ge hR 101 dX7_lossAtOthersTurn_12 (by decide) (by omega) (by omega) (fun c12 => ?_) (fun c12 => ?_))))
      · skip
        refine g_iload_4 hR dX7_lossAtOthersTurn_101 ?_
        exact g_iretX hR dX7_lossAtOthersTurn_103 rfl ⟨maxN (oG L s f (mS L s f n) r) k, rfl, ⟨maxN_mono _ hk, Or.inl (by rw [show k = (Lm L).length from by omega]; rfl)⟩, hP⟩
      · skip
        have hlo := lo_le ok k (does L s f k r)
        refine g_iload_4 hR dX7_lossAtOthersTurn_15 (g_iload_3 hR dX7_lossAtOthersTurn_17 (g_icmp_ge hR 101 dX7_lossAtOthersTurn_18 (by decide) (by omega) (by omega) (fun c18 => ?_) (fun c18 => ?_)))
        · skip
          refine g_iload_4 hR dX7_lossAtOthersTurn_101 ?_
          exact g_iretX hR dX7_lossAtOthersTurn_103 rfl ⟨maxN (oG L s f (mS L s f n) r) k, rfl, ⟨maxN_mono _ hk, Or.inr (by omega)⟩, hP⟩
        · skip
          refine g_aload_0 hR dX7_lossAtOthersTurn_21 (g_iload_5 hR dX7_lossAtOthersTurn_22 (g_aload_1 hR dX7_lossAtOthersTurn_24 (g_iload_5 hR dX7_lossAtOthersTurn_25 (g_callV1P hR dX7_lossAtOthersTurn_27 mlX7_164 h.sh.lt h.sh.obj rfl (C_willDo hN hLu ok hw hs hf (by omega) (by omega)) (by omega) (Nat.le_of_ble_eq_true rfl) (g_callV2P hR dX7_lossAtOthersTurn_30 mlX7_265 sh_laid.lt sh_laid.obj rfl (C_lost hLu ok (by omega) (does_lt L s hf _ _)) (by omega) (Nat.le_of_ble_eq_true rfl) (g_istore_6 hR dX7_lossAtOthersTurn_33 rfl (g_iload_2 hR dX7_lossAtOthersTurn_35 (g_iconst hR dX7_lossAtOthersTurn_36 (g_icmp_le hR 47 dX7_lossAtOthersTurn_37 (by decide) (by omega) (by omega) (fun c37 => ?_) (fun c37 => ?_))))))))))
          · skip
            refine g_null hR dX7_lossAtOthersTurn_47 (g_astoreN_7 hR dX7_lossAtOthersTurn_48 rfl (g_aloadN_7 hR dX7_lossAtOthersTurn_50 (g_ifnullN hR 86 dX7_lossAtOthersTurn_52 (by decide) (g_iload_4 hR dX7_lossAtOthersTurn_86 (g_iload_6 hR dX7_lossAtOthersTurn_88 (g_max hR dX7_lossAtOthersTurn_90 mlX7_296 (by omega) (Nat.le_of_ble_eq_true rfl) (by omega) (by omega) (g_istore_4 hR dX7_lossAtOthersTurn_93 rfl (g_iinc_5 hR dX7_lossAtOthersTurn_95 rfl (g_goto hR 6 dX7_lossAtOthersTurn_98 (by decide) ?_)))))))))
            have e0 : n = 0 := by omega
            subst e0
            have e2 : ((maxN (oG L s f (mS L s f 0) r) (k + 1) : Nat) : Int) = max ((maxN (oG L s f (mS L s f 0) r) k : Nat) : Int) ((lo L k (does L s f k r) : Nat) : Int) := by
              rw [show maxN (oG L s f (mS L s f 0) r) (k + 1) = max (maxN (oG L s f (mS L s f 0) r) k) (lo L k (does L s f k r)) from rfl]
              omega
            have h9 := ih ((Lm L).length - (k + 1)) (by omega) (k + 1) u rfl (by omega) hP
            rw [e2] at h9
            exact h9 _ _
          · skip
            refine g_aload_1 hR dX7_lossAtOthersTurn_40 (g_callV0R hR dX7_lossAtOthersTurn_41 mlX7_312 h.sh.lt h.sh.obj rfl (C_step hN hP.2 (by omega)) (by omega) (Nat.le_of_ble_eq_true rfl) (fun u1 hu1 => ?_))
            have hL1 := hLu.fr hu1.2 (by omega)
            refine g_goto hR 48 dX7_lossAtOthersTurn_44 (by decide) (g_astore_7 hR dX7_lossAtOthersTurn_48 rfl (g_aload_7 hR dX7_lossAtOthersTurn_50 (g_ifnull hR dX7_lossAtOthersTurn_52 (g_aload_7 hR dX7_lossAtOthersTurn_55 (g_iload_5 hR dX7_lossAtOthersTurn_57 (g_callV1Z hR dX7_lossAtOthersTurn_59 mlX7_198 hu1.1.sh.lt hu1.1.sh.obj rfl (C_day hu1.1 hL1 ok hw hs hf (by omega) (by omega) (k := k) (by omega)) (by omega) (Nat.le_of_ble_eq_true rfl) (fun u2 hu2 => ?_)))))))
            have hL2 := hL1.fr hu2.2 (by omega)
            have hC2 := (hP.2.stp hu1.2).sam hu2.2
            have hrl := dayR_len L s f k r
            have hF2 : Fr σ u2 (97 + 5 * (j + 1)) 137 := hP.1.tr ((hu1.2.mono (by omega) (by omega)).tr (hu2.2.mono (by omega) (by omega)))
            refine g_pop hR dX7_lossAtOthersTurn_62 rfl (g_iload_6 hR dX7_lossAtOthersTurn_63 (g_aload_0 hR dX7_lossAtOthersTurn_65 (g_aload_7 hR dX7_lossAtOthersTurn_66 (g_iload_2 hR dX7_lossAtOthersTurn_68 (g_iconst hR dX7_lossAtOthersTurn_69 (g_isub hR dX7_lossAtOthersTurn_70 (g_iconst hR dX7_lossAtOthersTurn_71 (g_iload_4 hR dX7_lossAtOthersTurn_72 (g_iload_6 hR dX7_lossAtOthersTurn_74 (g_isub hR dX7_lossAtOthersTurn_76 (g_max hR dX7_lossAtOthersTurn_77 mlX7_296 (by omega) (Nat.le_of_ble_eq_true rfl) (by omega) (by omega) ?_)))))))))))
            rw [show ((n + 1 : Nat) : Int) - 1 = (n : Nat) from by omega]
            obtain ⟨eq, heq⟩ : ∃ eq : Nat, max 0 (((maxN (oG L s f (mS L s f n) r) k : Nat) : Int) - (lo L k (does L s f k r) : Nat)) = eq := ⟨_, (Int.toNat_of_nonneg (Int.le_max_left 0 _)).symm⟩
            rw [heq]
            refine g_callS4X hR dX7_lossAtOthersTurn_80 mlX7_246 (hM u2 (j + 1) (dayR L s f k r) eq hu2.1 hC2 hL2 (dayR_ok ok hw (by omega) s f) (by omega) (by omega) (by omega)) (by omega) (Nat.le_of_ble_eq_true rfl) (fun v3 u3 hu3 => ?_)
            obtain ⟨⟨hv1, hv2, hv3⟩, hP3⟩ := hu3
            have hP4 := PCh.low hF2 hu2.1 hP3
            refine g_iadd hR dX7_lossAtOthersTurn_83 (g_istore_6 hR dX7_lossAtOthersTurn_84 rfl (g_iload_4 hR dX7_lossAtOthersTurn_86 (g_iload_6 hR dX7_lossAtOthersTurn_88 (g_max hR dX7_lossAtOthersTurn_90 mlX7_296 (by omega) (Nat.le_of_ble_eq_true rfl) (by omega) (by omega) (g_istore_4 hR dX7_lossAtOthersTurn_93 rfl (g_iinc_5 hR dX7_lossAtOthersTurn_95 rfl (g_goto hR 6 dX7_lossAtOthersTurn_98 (by decide) ?_)))))))
            have e2 : ((maxN (oG L s f (mS L s f n) r) (k + 1) : Nat) : Int) = max ((maxN (oG L s f (mS L s f n) r) k : Nat) : Int) ((lo L k (does L s f k r) : Nat) + (v3 : Nat)) := by
              rw [show maxN (oG L s f (mS L s f n) r) (k + 1) = max (maxN (oG L s f (mS L s f n) r) k) (lo L k (does L s f k r) + mS L s f n (dayR L s f k r)) from rfl]
              omega
            have h9 := ih ((Lm L).length - (k + 1)) (by omega) (k + 1) u3 rfl (by omega) hP4
            rw [e2] at h9
            exact h9 _ _
  exact loop (Lm L).length 0 σ (by omega) (by omega) ⟨Fr.rf, hc⟩ _ _
theorem C_mot {E : f_E} {σ : f_Mem} {L : Les} {s f : Nat} (ok : LesOK L) (hs : s < 4) (hf : f < 6) {n : Nat} (hO : OTc E L s f n) {j e : Nat} {r : List Nat} (h : Lrn σ (97 + 5 * j) (lrnB j) s f r) (hc : Chn σ j) (hL : Lsn σ 19 L) (hw : WOK L r) (he : e ≤ 1000000) (hr : r.length + 2 * (n + 1) < 800000) (hj : j + 2 * (n + 1) ≤ 7) : FX E sC mX7_lossAtMothersTurn (2 * (n + 1) + 7) [.ref (f_ad E 19), .ref (f_ad E (97 + 5 * j)), .int (iI (n + 1 : Nat)), .int (iI e)] σ (fun v u => (mS L s f (n + 1) r ≤ v ∧ v ≤ 1000 ∧ (v = mS L s f (n + 1) r ∨ v ≤ e)) ∧ PCh σ j u) := by
  have hK6 := ok.k
  refine FX.intro rfl (Nat.le_of_ble_eq_true rfl) (L0 := [some (.ref (f_ad E 19)), some (.ref (f_ad E (97 + 5 * j))), some (.int (iI (n + 1 : Nat))), some (.int (iI e)), none, none, none]) rfl (fun G hR => ?_)
  refine g_iload_2 hR dX7_lossAtMothersTurn_0 (g_if_gt hR 6 dX7_lossAtMothersTurn_1 (by decide) (by omega) (fun c1 => ?_) (fun c1 => ?_))
  · skip
    refine g_aload_0 hR dX7_lossAtMothersTurn_6 (g_aload_1 hR dX7_lossAtMothersTurn_7 (g_iload_2 hR dX7_lossAtMothersTurn_8 (g_ldc hR (1000000) dX7_lossAtMothersTurn_9 kcX7_236 (by decide) (g_callS4X hR dX7_lossAtMothersTurn_11 mlX7_309 (hO σ j r 1000000 h hc hL hw (by omega) (by omega) (by omega)) (by omega) (Nat.le_of_ble_eq_true rfl) (fun v1 u1 hu1 => ?_)))))
    obtain ⟨⟨hv1, hv2⟩, hP1⟩ := hu1
    have hb0 := oS_le ok s f (mS_le ok s f n) r
    have e0 : v1 = (oS L s f (mS L s f n) r) := by omega
    subst e0
    refine g_istore_4 hR dX7_lossAtMothersTurn_14 rfl (g_iconst hR dX7_lossAtMothersTurn_16 (g_istore_5 hR dX7_lossAtMothersTurn_17 rfl ?_))
    have loop : ∀ (mm : Nat) (k : Nat) (u : f_Mem), mm = 6 * (Lm L).length - k → k ≤ 6 * (Lm L).length → PCh σ j u → ∀ x6 : Option Value, G 19 [some (.ref (f_ad E 19)), some (.ref (f_ad E (97 + 5 * j))), some (.int (iI (n + 1 : Nat))), some (.int (iI e)), some (.int (iI ((minN (fun w => oS L s f (mS L s f n) (w :: r)) (oS L s f (mS L s f n) r) (k)) : Nat))), some (.int (iI k)), x6] [] u := by
      intro mm
      induction mm using Nat.strongRecOn with
      | ind mm ih =>
        intro k u hm hk hP x6
        have hN := h.fr hP.1 (by omega)
        have hLu := hL.fr hP.1 (by omega)
        have hmx : (minN (fun w => oS L s f (mS L s f n) (w :: r)) (oS L s f (mS L s f n) r) (k)) ≤ 20 + 20 * n := Nat.le_trans (minN_le _ _ _) hb0
        refine g_iload_5 hR dX7_lossAtMothersTurn_19 (g_aload_0 hR dX7_lossAtMothersTurn_21 (g_callV0P hR dX7_lossAtMothersTurn_22 mlX7_116 sh_laid.lt sh_laid.obj rfl (C_kinds hLu) (by omega) (Nat.le_of_ble_eq_true rfl) (g_bipush hR dX7_lossAtMothersTurn_25 (by decide) (g_imul hR dX7_lossAtMothersTurn_27 (g_icmp_ge hR 88 dX7_lossAtMothersTurn_28 (by decide) (by omega) (by omega) (fun c28 => ?_) (fun c28 => ?_))))))
        · skip
          refine g_iload_4 hR dX7_lossAtMothersTurn_88 ?_
          exact g_iretX hR dX7_lossAtMothersTurn_90 rfl ⟨(minN (fun w => oS L s f (mS L s f n) (w :: r)) (oS L s f (mS L s f n) r) (k)), rfl, ⟨minN_mono _ _ hk, by omega, Or.inl (by rw [show k = 6 * (Lm L).length from by omega]; rfl)⟩, hP⟩
        · skip
          refine g_iload_4 hR dX7_lossAtMothersTurn_31 (g_iload_3 hR dX7_lossAtMothersTurn_33 (g_icmp_le hR 88 dX7_lossAtMothersTurn_34 (by decide) (by omega) (by omega) (fun c34 => ?_) (fun c34 => ?_)))
          · skip
            refine g_iload_4 hR dX7_lossAtMothersTurn_88 ?_
            exact g_iretX hR dX7_lossAtMothersTurn_90 rfl ⟨(minN (fun w => oS L s f (mS L s f n) (w :: r)) (oS L s f (mS L s f n) r) (k)), rfl, ⟨minN_mono _ _ hk, by omega, Or.inr (by omega)⟩, hP⟩
          · skip
            refine g_aload_1 hR dX7_lossAtMothersTurn_37 (g_callV0R hR dX7_lossAtMothersTurn_38 mlX7_312 h.sh.lt h.sh.obj rfl (C_step hN hP.2 (by omega)) (by omega) (Nat.le_of_ble_eq_true rfl) (fun u1 hu1 => ?_))
            have hL1 := hLu.fr hu1.2 (by omega)
            refine g_astore_6 hR dX7_lossAtMothersTurn_41 rfl (g_aload_6 hR dX7_lossAtMothersTurn_43 (g_ifnonnull hR 51 dX7_lossAtMothersTurn_45 (by decide) (g_aload_6 hR dX7_lossAtMothersTurn_51 (g_iload_5 hR dX7_lossAtMothersTurn_53 (g_bipush hR dX7_lossAtMothersTurn_55 (by decide) (g_idiv hR dX7_lossAtMothersTurn_57 (by omega) (by omega) (g_iload_5 hR dX7_lossAtMothersTurn_58 (g_bipush hR dX7_lossAtMothersTurn_60 (by decide) (g_irem hR dX7_lossAtMothersTurn_62 (by omega) (by omega) (g_callV2V hR dX7_lossAtMothersTurn_63 mlX7_217 hu1.1.sh.lt hu1.1.sh.obj rfl (C_hear hu1.1 (k := k / 6) (d := k % 6) (by omega) (by omega)) (by omega) (Nat.le_of_ble_eq_true rfl) (fun u2 hu2 => ?_)))))))))))
            have hN2 := hu2.1
            rw [show 6 * (k / 6) + k % 6 = k from by omega] at hN2
            have hL2 := hL1.fr hu2.2 (by omega)
            have hC2 := (hP.2.stp hu1.2).sam hu2.2
            have hF2 : Fr σ u2 (97 + 5 * (j + 1)) 137 := hP.1.tr ((hu1.2.mono (by omega) (by omega)).tr (hu2.2.mono (by omega) (by omega)))
            have hw2 : WOK L (k :: r) := fun w hq => by
              rcases List.mem_cons.mp hq with q | q
              · rw [q]; omega
              · exact hw w q
            refine g_iload_4 hR dX7_lossAtMothersTurn_66 (g_aload_0 hR dX7_lossAtMothersTurn_68 (g_aload_6 hR dX7_lossAtMothersTurn_69 (g_iload_2 hR dX7_lossAtMothersTurn_71 (g_iload_4 hR dX7_lossAtMothersTurn_72 (g_callS4X hR dX7_lossAtMothersTurn_74 mlX7_309 (hO u2 (j + 1) (k :: r) (minN (fun w => oS L s f (mS L s f n) (w :: r)) (oS L s f (mS L s f n) r) (k)) hN2 hC2 hL2 hw2 (by simp only [List.length_cons]; omega) (by omega) (by omega)) (by omega) (Nat.le_of_ble_eq_true rfl) (fun v3 u3 hu3 => ?_))))))
            obtain ⟨⟨hv3, hv4⟩, hP3⟩ := hu3
            have hb3 := oS_le ok s f (mS_le ok s f n) (k :: r)
            have hP4 := PCh.low hF2 hN2 hP3
            refine g_min hR dX7_lossAtMothersTurn_77 mlX7_316 (by omega) (Nat.le_of_ble_eq_true rfl) (by omega) (by omega) (g_istore_4 hR dX7_lossAtMothersTurn_80 rfl (g_iinc_5 hR dX7_lossAtMothersTurn_82 rfl (g_goto hR 19 dX7_lossAtMothersTurn_85 (by decide) ?_)))
            have e2 : (((minN (fun w => oS L s f (mS L s f n) (w :: r)) (oS L s f (mS L s f n) r) (k + 1)) : Nat) : Int) = min (((minN (fun w => oS L s f (mS L s f n) (w :: r)) (oS L s f (mS L s f n) r) (k)) : Nat) : Int) (v3 : Int) := by
              rw [show (minN (fun w => oS L s f (mS L s f n) (w :: r)) (oS L s f (mS L s f n) r) (k + 1)) = min (minN (fun w => oS L s f (mS L s f n) (w :: r)) (oS L s f (mS L s f n) r) (k)) (oS L s f (mS L s f n) (k :: r)) from rfl]
              omega
            have h9 := ih (6 * (Lm L).length - (k + 1)) (by omega) (k + 1) u3 rfl (by omega) hP4
            rw [e2] at h9
            exact h9 _
    exact loop (6 * (Lm L).length) 0 u1 (by omega) (by omega) hP1 _
  · skip
    exact absurd c1 (by omega)

theorem C_mot_all (E : f_E) {L : Les} {s f : Nat} (ok : LesOK L) (hs : s < 4) (hf : f < 6) : ∀ n, MTc E L s f n
  | 0 => fun σ j r e h hc _ _ _ _ _ => C_mot0 h hc
  | n + 1 => fun σ j r e h hc hL hw hr hj he => C_mot ok hs hf (fun σ j r e h hc hL hw hr hj he => C_oth ok hs hf (C_mot_all E ok hs hf n) h hc hL hw he hr hj) h hc hL hw he hr hj

theorem K_byTurns {E : f_E} {σ : f_Mem} {A : AS} (h : InvC σ A) (ok : ASOK A) {n : Int} (hn : -2147483648 ≤ n ∧ n < 2147483648) : FZ E sC mX7_byTurns 12 [.ref (f_ad E 0), .int (iI n)] σ (sp_byTurns A n) (fun u => InvC u A) := by
  have hK1 := ok.K1
  have hK6 := ok.K6
  have hkk : AK A = (Lm (AL A)).length := rfl
  have hwl := ok.wl
  refine FZ.intro rfl (Nat.le_of_ble_eq_true rfl) (L0 := [some (.ref (f_ad E 0)), some (.int (iI n))]) rfl (fun G hR => ?_)
  refine g_iload_1 hR dX7_byTurns_0 (g_iconst hR dX7_byTurns_1 (g_iconst hR dX7_byTurns_2 (g_callS3P hR dX7_byTurns_3 mlX7_105 (C_isWithin hn (by omega) (by omega)) (by omega) (Nat.le_of_ble_eq_true rfl) (g_if_eq hR 32 dX7_byTurns_6 (by decide) (by split <;> omega) (fun c6 => ?_) (fun c6 => ?_)))))
  · skip
    refine g_iconst hR dX7_byTurns_32 ?_
    exact g_iret hR dX7_byTurns_33 rfl (by unfold sp_byTurns; rw [if_neg (by omega)]; skip) h
  · skip
    obtain ⟨nq, rfl⟩ : ∃ nq : Nat, n = nq := ⟨n.toNat, by omega⟩
    refine g_aload_0 hR dX7_byTurns_9 (g_getR hR dX7_byTurns_10 flX7_34 (by decide) rfl rfl (g_aload_0 hR dX7_byTurns_13 (g_aload_0 hR dX7_byTurns_14 (g_getR hR dX7_byTurns_15 flX7_34 (by decide) rfl rfl (g_getI hR _ dX7_byTurns_18 flX7_167 sh_laid.lt sh_laid.obj rfl h.L.sort (g_callV1R hR dX7_byTurns_21 mlX7_160 (by decide) rfl rfl (C_learnerNow h ok ok.L.s) (by omega) (Nat.le_of_ble_eq_true rfl) (fun u1 hu1 => ?_)))))))
    have hI1 := h.l0 hu1.2 hu1.1.x
    refine g_iload_1 hR dX7_byTurns_24 (g_iconst hR dX7_byTurns_25 (g_callS4X hR dX7_byTurns_26 mlX7_246 (C_mot_all E ok.L ok.L.s ok.L.f nq u1 0 (AM A).1 0 hu1.1 hI1.chn hI1.L ok.w (by omega) (by omega) (by omega)) (by omega) (Nat.le_of_ble_eq_true rfl) (fun v2 u2 hu2 => ?_)))
    obtain ⟨⟨hv1, hv2, hv3⟩, hP⟩ := hu2
    have hI2 := hI1.ch (hP.1.mono (by omega) (by omega)) (hu1.1.x.fr hP.1 (by omega)) hP.2
    have e0 : v2 = mS (AL A) (Lsort (AL A)) (Lfirst (AL A)) nq (AM A).1 := by omega
    subst e0
    refine g_goto hR 33 dX7_byTurns_29 (by decide) ?_
    exact g_iret hR dX7_byTurns_33 rfl (by unfold sp_byTurns; rw [if_pos (by omega)]; rfl) hI2
