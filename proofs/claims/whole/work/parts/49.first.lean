
def Lz : Les := ([], [], [], [], [], [], 0, 0)
def A1 : AS := ([], Lz, M00, [], [], [])
def L1 : Les := (rdText at_nt).2
/-- what stands at the start -/
def A0 : AS := ([], L1, M00, [], [], [])
theorem at_none : (rdText at_nt).1 = none := by decide +kernel
theorem at_len : at_nt.length = 63 := by decide +kernel
theorem at_v : ∀ i, i < 63 → ((at_by.getD i 0 &&& 255).toUInt32 % 65536).toInt32 = iI (at_nt.getD i 0 : Nat) := by decide +kernel
theorem at_lt : ∀ i, i < 63 → at_nt.getD i 0 ≤ 126 := by decide +kernel
theorem at_nar : ∀ z : Nat, z ≤ 126 → narrow .char (.int (iI z)) = .int (iI z) := by
  intro z hz
  have h : ∀ z : Nat, z < 127 → ((iI z).toUInt32 % 65536).toInt32 = iI z := by decide +kernel
  first
    | exact congrArg Value.int (h z (by omega))
    | (simp only [narrow]; exact congrArg Value.int (h z (by omega)))
theorem at_Tx : Tx at_nt := fun i => by
  by_cases h : i < 63
  · exact at_lt i h
  · rw [getD_out (by rw [at_len]; omega)]; omega
section TM
variable {cc : ByteArray} {own : String} {D : Nat} {G : f_G} {pc : Nat} {L : f_L} {rest : List Value} {σ : f_Mem} {j : Nat}
theorem qs_len (hS : RulS cc own D G) (h0 : decode cc pc = .ok (.ldc 81, 2)) (h1 : decode cc (pc + 2) = .ok (.invokevirtual j, 3)) (h2 : f_LV own j mJ0_length_8abf5 0) (h3 : 2 ≤ D) (h4 : (rest.map fun v => v.category).sum ≤ 8) (k : G (pc + 5) L (.int (iI 63) :: rest) σ) : G pc L rest σ := hS.1 pc L rest σ j h0 h1 h2 h3 h4 ((show (63 : Int32) = iI 63 by decide) ▸ k)
theorem qs_ch {i : Nat} (hS : RulS cc own D G) (h0 : decode cc pc = .ok (.ldc 81, 2)) (h1 : decode cc (pc + 2) = .ok (.iload_n 2, 1)) (hL : L[2]? = some (some (.int (iI i)))) (h2 : decode cc (pc + 3) = .ok (.invokevirtual j, 3)) (h3 : f_LV own j mJ0_charAt_5068e 1) (h4 : 4 ≤ D) (h5 : (rest.map fun v => v.category).sum ≤ 8) (hi : i < 63) (k : G (pc + 6) L (.int (iI (at_nt.getD i 0 : Nat)) :: rest) σ) : G pc L rest σ :=
  hS.2 pc L rest σ j (iI i) _ h0 h1 hL h2 h3 h4 h5 (by rw [iI_0, iI_lt (by omega) (by omega)]; omega) (by rw [show (63 : Int32) = iI 63 by decide, iI_lt (by omega) (by omega)]; omega) (iI_in (by omega) (by omega)) (by rw [iI_clamp (by omega) (by omega), Int.toNat_natCast]; exact at_v i hi) (at_nar _ (at_lt i hi)) k
end TM
theorem T_main {E : f_E} {σ : f_Mem} {G : f_G} {b : Nat} (hR : Rul cX7_init RX7 none 12 E sC eV (fun _ u => InvC u A0) G) (hS : RulS cX7_init RX7 12 G) (h : InvC σ A1) (hL3 : Lsn σ 3 Lz) : G 185 [some (.ref (f_ad E 0)), some (.ref b), some (.int (iI 0))] [] σ := by
  have h0 := h.t
  have fin : ∀ u, Num u 1 200 at_nt → Fr σ u 1 3 → G 213 [some (.ref (f_ad E 0)), some (.ref b), some (.int (iI 63))] [] u := by
    intro u hN hF
    have hF0 : Fr σ u 0 3 := hF.mono (by omega) (by omega)
    obtain ⟨P1, hp1⟩ := h.p
    obtain ⟨P2, hp2⟩ := h.k
    have hu : InvC u (at_nt, A1.2) := ⟨hN, h.L.fr hF (by omega), h.M.fr hF (by omega), ⟨P1, hp1.fr hF (by omega)⟩, ⟨P2, hp2.fr hF (by omega)⟩, h.z.fr hF (by omega), h.s.fr hF0 (Or.inl ⟨rfl, by omega⟩)⟩
    refine g_aload_0 hR dX7_init_213 (g_getR hR dX7_init_214 flX7_30 (by decide) rfl rfl (g_callV0Z hR dX7_init_217 mlX7_96 (by decide) rfl rfl (show FZ E sC mX5_readAll 5 [.ref (f_ad E 16)] u (-4) (fun w => RaP u w (rdText at_nt)) from (show oI (rdText at_nt).1 = -4 from by rw [at_none]; rfl) ▸ Cr_readAll hu.t at_Tx hu.s.2.1 hu.s.1) (by decide) (Nat.le_of_ble_eq_true rfl) (fun u1 hu1 => ?_)))
    have h1 := hu.rd hu1
    obtain ⟨⟨L2, g1, g2⟩, g3, g4⟩ := hu1
    have g5 := g2 at_none
    subst g5
    refine g_pop hR dX7_init_220 rfl (g_aload_0 hR dX7_init_221 (g_getR hR dX7_init_222 flX7_34 (by decide) rfl rfl (g_aload_0 hR dX7_init_225 (g_getR hR dX7_init_226 flX7_21 (by decide) rfl rfl (g_callV1V hR dX7_init_229 mlX7_99 sh_laid.lt sh_laid.obj rfl (C_lsnCopy h1.L g1 (by omega)) (by decide) (Nat.le_of_ble_eq_true rfl) (fun u2 hu2 => ?_))))))
    have hu2' : InvC u2 (at_nt, L1, M00, [], [], []) := by
      obtain ⟨Q1, hq1⟩ := h1.p
      obtain ⟨Q2, hq2⟩ := h1.k
      exact ⟨h1.t.fr hu2.2 (by omega), hu2.1, h1.M.fr hu2.2 (by omega), ⟨Q1, hq1.fr hu2.2 (by omega)⟩, ⟨Q2, hq2.fr hu2.2 (by omega)⟩, h1.z.fr hu2.2 (by omega), h1.s.fr hu2.2 (Or.inr ⟨by omega, by omega⟩)⟩
    refine g_aload_0 hR dX7_init_232 (g_getR hR dX7_init_233 flX7_14 (by decide) rfl rfl (g_callV0V hR dX7_init_236 mlX7_102 sh_text.lt sh_text.obj rfl (Cn_clear hu2'.t) (by decide) (Nat.le_of_ble_eq_true rfl) (fun u3 hu3 => ?_)))
    have hF3 : Fr u2 u3 0 3 := hu3.2.mono (by omega) (by omega)
    obtain ⟨Q1, hq1⟩ := hu2'.p
    obtain ⟨Q2, hq2⟩ := hu2'.k
    exact g_vret hR dX7_init_239 rfl ⟨hu3.1, hu2'.L.fr hu3.2 (by omega), hu2'.M.fr hu3.2 (by omega), ⟨Q1, hq1.fr hu3.2 (by omega)⟩, ⟨Q2, hq2.fr hu3.2 (by omega)⟩, hu2'.z.fr hu3.2 (by omega), hu2'.s.fr hF3 (Or.inl ⟨rfl, by omega⟩)⟩
  have loop : ∀ (m i : Nat) (u : f_Mem), m = 63 - i → i ≤ 63 → Num u 1 200 (at_nt.take i) → Fr σ u 1 3 → G 185 [some (.ref (f_ad E 0)), some (.ref b), some (.int (iI i))] [] u := by
    intro m
    induction m using Nat.strongRecOn with
    | ind m ih =>
      intro i u hm hi hN hF
      have hl : (at_nt.take i).length = i := by rw [List.length_take, at_len]; omega
      refine g_iload_2 hR dX7_init_185 (qs_len hS dX7_init_186 dX7_init_188 mlX7_83 (by decide) (Nat.le_of_ble_eq_true rfl) (g_icmp_ge hR 213 dX7_init_191 (by decide) (by omega) (by omega) (fun c => ?_) (fun c => ?_)))
      · have e : i = 63 := by omega
        subst e
        exact fin u ((show at_nt.take 63 = at_nt by rw [← at_len, List.take_length]) ▸ hN) hF
      · refine g_aload_0 hR dX7_init_194 (g_getR hR dX7_init_195 flX7_14 (by decide) rfl rfl (qs_ch (i := i) hS dX7_init_198 dX7_init_200 rfl dX7_init_201 mlX7_89 (by decide) (Nat.le_of_ble_eq_true rfl) (by omega) (g_callV1V hR dX7_init_204 mlX7_93 sh_text.lt sh_text.obj rfl (Cn_add hN (v := at_nt.getD i 0) (by omega)) (by decide) (Nat.le_of_ble_eq_true rfl) (fun u1 hu1 => ?_))))
        refine g_iinc_2 hR dX7_init_207 rfl (g_goto hR 185 dX7_init_210 (by decide) ?_)
        have ht : at_nt.take i ++ [at_nt.getD i 0] = at_nt.take (i + 1) := by
          rw [List.take_succ, getD_some (by rw [at_len]; omega)]; rfl
        exact ih (63 - (i + 1)) (by omega) (i + 1) u1 rfl (by omega) (ht ▸ hu1.1) (hF.tr hu1.2)
  exact loop 63 0 σ (by omega) (by omega) h0 Fr.rf

