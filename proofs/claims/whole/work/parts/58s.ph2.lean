/-! all units -/
theorem ru0 {n : Nat} {x1 x2 : Int32} {τ : am_S} : g_Mo_readUnits_23 (n + 1) x1 x2 0 τ = some (0, τ) := by
  unfold g_Mo_readUnits_23 g_Mo_readUnits_118
  rw [if_pos rfl]
  rfl
def UP (x : Int32) (s : am_S) (y : Int32) (t : am_S) : Prop := (x = 0 ∧ y = 0) ∨ (x = 1 ∧ y = 1 ∧ ∃ N U fs, UL s t N U fs)
def UlS (stop U : Nat) : Prop := ∀ (σ τ : am_S) (p N : Nat) (fs : Nat → Nat), UL σ τ N U fs → CU σ 30 p stop false → ∀ n n', 4 - U + 1 < n → 4 - U + 2 < n' → R2 (g_Ur_read_30 n (nI stop) (nI U) σ) (g_Mo_readUnits_23 n' (nI stop) (nI p) 1 τ) UP
theorem ul_s {stop U : Nat} (hU : U ≤ 4) (ih : U < 4 → UlS stop (U + 1)) : UlS stop U := by
  intro σ τ p N fs h hC n n' hn hn'
  obtain ⟨n, rfl⟩ : ∃ z, n = z + 1 := ⟨n - 1, by omega⟩
  obtain ⟨n', rfl⟩ : ∃ z, n' = z + 2 := ⟨n' - 2, by omega⟩
  have hps := hC.2.2.2.1
  have hst := hC.2.2.2.2
  unfold g_Ur_read_30 g_Ur_read_81 g_Ur_read_65 g_Mo_readUnits_23
  rw [if_neg (show ¬ 4 < nI U from nI_nlt (a := 4) (by omega) (by omega)), if_neg i10, hC.1]
  by_cases cp : p < stop
  · rw [if_pos (nI_lt cp (by omega)), if_pos (nI_lt cp (by omega))]
    have fM : FR [(0, 6), (0, 7), (0, 8)] [] τ (am_fi (am_fi (am_fi τ 0 6 (nI p)) 0 7 (nI stop)) 0 8 0) := fr_fi (fr_fi (fr_fi fr_rf (by simp)) (by simp)) (by simp)
    have hG : RG 30 σ (am_fi (am_fi (am_fi τ 0 6 (nI p)) 0 7 (nI stop)) 0 8 0) p stop := ⟨hC, RU_0 hps hst, UL_b h⟩
    have h' := UL_fr h (fr_rf (W := []) (A := [])) fM (by decide) (by decide) (by decide)
    obtain ⟨v1, s1, w1, t1, e1, e1', f1, g1, k1⟩ := xu (m := 4) hG (by omega) (by omega)
    have L1 := UL_fr h' f1 g1 (by decide) (by decide) (by decide)
    rw [show g_Mo_u 4 _ = _ from e1', bd_t, UL_v L1]
    unfold g_Mo_readUnits_86 g_Mo_readUnits_87 g_Mo_readUnits_115
    by_cases c4 : U = 4
    · rw [if_pos (show nI U = 4 from c4 ▸ rfl), if_neg (show ¬ nI U < 4 from nI_nlt (b := 4) (by omega) (by omega)), if_pos rfl, ru0]
      exact R2_p (Or.inl ⟨rfl, rfl⟩)
    · rw [if_neg (show ¬ nI U = 4 from fun z => c4 ((nI_eq (b := 4) (by omega) (by omega)).mp z)), if_pos (show nI U < 4 from nI_lt (b := 4) (by omega) (by omega))]
      unfold g_Ur_readHead g_Ur_readHead_48
      rw [show g_Cu_number 30 4 σ = _ from e1, bd_t, hC.1]
      rcases k1 with ⟨hq1, G1, rfl, rfl⟩ | ⟨b1, rfl, rfl⟩
      · rw [if_pos (RG_3 G1), if_pos (RG_8 G1), G1.1.1, G1.1.2.1, G1.2.1.1, pk_sub (show p + 4 ≤ stop by omega), nI_l (by omega)]
        have n4 := num_lt (σ.2.1 1) 4 p
        generalize num (σ.2.1 1) p 4 = sz at *
        by_cases cz : lN (stop - (p + 4)) < lN sz
        · rw [if_pos ((cmp_gt _ _).mpr cz), if_pos ((cmp_gt _ _).mpr cz), bd_t, if_pos rfl, if_pos rfl, ru0]
          exact R2_p (Or.inl ⟨rfl, rfl⟩)
        · rw [if_neg (fun z => cz ((cmp_gt _ _).mp z)), if_neg (fun z => cz ((cmp_gt _ _).mp z)), if_neg i10]
          have hz : sz ≤ stop - (p + 4) := by
            have := mt (lNl (x := stop - (p + 4)) (c := sz) (by omega) (by omega)).mpr cz
            omega
          rw [lN_i, nI_add]
          have fC2 : FR [(30, 2)] [] s1 (am_fi s1 30 2 (nI (p + 4 + sz))) := fr_fi fr_rf (by simp)
          have fM2 : FR [(0, 7)] [] t1 (am_fi t1 0 7 (nI (p + 4 + sz))) := fr_fi fr_rf (by simp)
          have G2 : RG 30 (am_fi s1 30 2 (nI (p + 4 + sz))) (am_fi t1 0 7 (nI (p + 4 + sz))) (p + 4) (p + 4 + sz) := ⟨⟨(fi_no (Or.inl (by decide))).trans G1.1.1, fi_at, (fi_no (Or.inl (by decide))).trans G1.1.2.2.1, by omega, by omega⟩, ⟨(fi_no (Or.inl (by decide))).trans G1.2.1.1, fi_at, (fi_no (Or.inl (by decide))).trans G1.2.1.2.2.1, by omega, by omega⟩, G1.2.2⟩
          have L2 := UL_fr L1 fC2 fM2 (by decide) (by decide) (by decide)
          refine un_l L2 (by omega) G2 (by omega) (fun s t => ?_) (fun s t p4 na hp4 H S => ?_)
          · rw [if_pos rfl, ru0]
            exact R2_p (Or.inl ⟨rfl, rfl⟩)
          · rw [if_neg i10]
            unfold g_Ur_readEntries g_Mo_readEntries
            have nxU : nx fs U N (U + 1 - 1) = N := if_pos rfl
            have En : s.1.1 10 10 = nI N := by
              have := LPZ_n H
              rw [fi_no (Or.inr (by decide)), fi_no (Or.inr (by decide))] at this
              exact this
            have Em : t.1.1 0 22 = nI N := by
              have := LPZ_m H
              rw [fi_no (Or.inl (by decide))] at this
              exact this
            have hEl := el_l (p4 + 3000) p4 (by omega) _ _ N 0 0 H (by omega)
            have hle := RG_q (LPZ_g H)
            have hEl := el_l (q := p + 4 + sz) 3000 p4 (by omega) _ _ N 0 0 H (by omega) 4000 4000 (by omega) (by omega)
            rw [nxU] at hEl
            obtain ⟨x5, s5, y5, t5, e5, e5', k5⟩ := hEl
            have f5 := f_Ur_readEntries_20 _ e5
            have g5 := f_Mo_readEntries_12 _ e5'
            rw [En, Em, show (0 : Int32) = nI 0 from rfl, show (am_fi t 0 23 (nI 0)) = am_fi t 0 23 0 from rfl, show am_fi (am_fi s 21 5 (-1)) 21 6 (nI 0) = am_fi (am_fi s 21 5 (-1)) 21 6 0 from rfl, e5, e5', bd_t, bd_t]
            rcases k5 with ⟨rfl, rfl⟩ | ⟨rfl, rfl, N', hN', H5⟩
            · rw [if_pos (show (0 : Int32) = nI 0 from rfl), show z01 0 = true from by decide, gd_t, bd_t, ru0]
              exact R2_p (Or.inl ⟨rfl, rfl⟩)
            · rw [if_neg (show ¬ (1 : Int32) = nI 0 by decide), show z01 1 = true from by decide, gd_t, bd_t, (LPZ_g H5).2.1.2.1, show nI U + 1 = nI (U + 1) from nI_add U 1]
              rw [nxU] at hN'
              have S5 : SR s5 t5 := SR_fr (SR_fr S (fr_fi (W := [(21, 5), (21, 6)]) (A := []) (fr_fi fr_rf (by simp)) (by simp)) (fr_fi (W := [(0, 23)]) (A := []) fr_rf (by simp)) (by decide)) f5 g5 (by decide)
              have fC5 : FR [(30, 2)] [] s5 (am_fi s5 30 2 (nI stop)) := fr_fi fr_rf (by simp)
              have L5 : UL s5 t5 N' (U + 1) (nx fs U N) := ⟨(LPZ_g H5).2.2, S5, LPZ_n H5, LPZ_m H5, LPZ_l H5, LPZ_u H5, LPZ_v H5, LPZ_u4 H5, LPZ_en H5, LPZ_un H5, fun u hu => by
                by_cases c : u + 1 < U + 1
                · exact LPZ_fl H5 u c
                · rw [show u = U by omega, show nx fs U N U = N from if_pos rfl]; exact hN'⟩
              refine ih (by omega) (am_fi s5 30 2 (nI stop)) t5 (p + 4 + sz) N' (nx fs U N) (UL_fr L5 fC5 (fr_rf (W := []) (A := [])) (by decide) (by decide) (by decide)) ⟨(fi_no (Or.inl (by decide))).trans (LPZ_g H5).1.1, fi_at, (fi_no (Or.inl (by decide))).trans (LPZ_g H5).1.2.2.1, by omega, hst⟩ n (n' + 1) (by omega) (by omega)
      · rw [if_neg b1.1, if_neg b1.2, bd_t, if_pos rfl, if_pos rfl, ru0]
        exact R2_p (Or.inl ⟨rfl, rfl⟩)
  · rw [if_neg (nI_nlt (by omega) (by omega)), if_neg (nI_nlt (by omega) (by omega))]
    unfold g_Mo_readUnits_118
    exact R2_p (Or.inr ⟨rfl, rfl, N, U, fs, h⟩)
theorem ul_l {stop : Nat} : ∀ j U, U + j = 4 → UlS stop U := by
  intro j
  induction j with
  | zero => exact fun U hU => ul_s (by omega) (fun z => by omega)
  | succ j ih => exact fun U hU => ul_s (by omega) (fun _ => ih (U + 1) (by omega))
/-- phase 2 -/
theorem ph2 {σ τ : am_S} (hS : SR σ τ) (hb : σ.2.1 1 = τ.2.1 2) (h21 : τ.1.1 0 21 = 0) (h22 : τ.1.1 0 22 = 0) : R2 (g_Ur_read σ) (g_Mo_readUnits τ) UP := by
  unfold g_Ur_read g_En_forgetAll g_Mo_readUnits
  rw [bd_t]
  have f0 : FR [(10, 10), (10, 11)] [] σ (am_fi (am_fi σ 10 10 0) 10 11 0) := fr_fi (fr_fi fr_rf (by simp)) (by simp)
  have S0 : SR (am_fi (am_fi σ 10 10 0) 10 11 0) τ := SR_fr hS f0 (fr_rf (W := []) (A := [])) (by decide)
  obtain ⟨_, a, z, h6, h7, h3, h4, hle⟩ := S0 1 (by decide)
  have e1 := po_ok (k := 30) (n := 0) (s := 1) (by decide) h6 h7 hle (by omega)
  rw [show g_Se_point 30 1 0 _ = _ from e1, bd_t, show inb 1 10 = true from by decide, gd_t, gd_t, gd_t, show (1 : Int32).toNatClampNeg = 1 from by decide, h3, h4, nI_add, fi_no (Or.inl (by decide)), fi_at]
  have fC : FR [(30, 1), (30, 2), (30, 3)] [] (am_fi (am_fi σ 10 10 0) 10 11 0) (am_fi (am_fi (am_fi (am_fi (am_fi σ 10 10 0) 10 11 0) 30 1 (nI (a + 0))) 30 2 (nI (a + z))) 30 3 0) := fr_fi (fr_fi (fr_fi fr_rf (by simp)) (by simp)) (by simp)
  refine ul_l 4 0 rfl _ τ (a + 0) 0 (fun _ => 0) ?_ (CU_0 (by omega) hle) 4000 4000 (by omega) (by omega)
  refine UL_fr (σ := am_fi (am_fi σ 10 10 0) 10 11 0) (τ := τ) ?_ fC (fr_rf (W := []) (A := [])) (by decide) (by decide) (by decide)
  exact ⟨hb, S0, by rw [fi_no (Or.inl (by decide)), fi_at]; rfl, h22, by omega, fi_at, h21, by omega, fun e he => absurd he (by omega), fun u hu => absurd hu (by omega), fun u hu => absurd hu (by omega)⟩
