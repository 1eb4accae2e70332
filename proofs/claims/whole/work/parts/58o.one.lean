/-! the entries of a unit, both sides -/
def STK (σ τ : am_S) (N U : Nat) : Nat → Int32 → Prop
  | 0, v => v = -1
  | d + 1, v => ∃ a, a < N ∧ v = nI a ∧ τ.2.1 15 d = nI a ∧ DP σ d a ∧ σ.2.1 13 a = nI (U - 1) ∧ STK σ τ N U d (σ.2.1 12 a)
theorem STK_up {N N' U : Nat} {σ τ s t : am_S} (hN : N ≤ N') (h1 : ∀ j, j < N → s.2.1 12 j = σ.2.1 12 j) (h2 : ∀ j, j < N → s.2.1 13 j = σ.2.1 13 j) : ∀ d v, (∀ j, j < d → t.2.1 15 j = τ.2.1 15 j) → STK σ τ N U d v → STK s t N' U d v := by
  intro d
  induction d with
  | zero => exact fun v _ h => h
  | succ d ih =>
    intro v h3 h
    obtain ⟨a, ha, e1, e2, e3, e4, e5⟩ := h
    refine ⟨a, by omega, e1, (h3 d (by omega)).trans e2, DP_up h1 h2 d a ha e3, (h2 a ha).trans e4, ?_⟩
    rw [h1 a ha]
    exact ih _ (fun j hj => h3 j (by omega)) e5
theorem AB1_fr {a : Nat} {W W' : List (Nat × Nat)} {A A' : List Nat} {σ τ s t : am_S} (h : AB1 σ τ a) (f : FR W A σ s) (g : FR W' A' τ t) (n : ([23, 24, 25, 26, 27, 28, 29].all (fun k => !A.contains k) && [6, 7, 8, 9, 10, 11, 12].all (fun k => !A'.contains k)) = true) : AB1 s t a := by
  simp only [List.all_cons, List.all_nil, Bool.and_true, Bool.and_eq_true, Bool.not_eq_true'] at n
  obtain ⟨⟨n1, n2, n3, n4, n5, n6, n7⟩, m1, m2, m3, m4, m5, m6, m7⟩ := n
  unfold AB1 AT
  rw [fr_c f n1, fr_c f n2, fr_b f n3, fr_b f n4, fr_c f n5, fr_b f n6, fr_c f n7, fr_c g m1, fr_c g m2, fr_c g m3, fr_c g m4, fr_b g m5, fr_b g m6, fr_b g m7]
  exact h
def LPZ (σ τ : am_S) (p q N U : Nat) (fs : Nat → Nat) (d na : Nat) : Prop := (RG 30 σ τ p q) ∧ (σ.1.1 10 10 = nI N) ∧ (τ.1.1 0 22 = nI N) ∧ (N ≤ 200) ∧ (σ.1.1 10 11 = nI U) ∧ (τ.1.1 0 21 = nI U) ∧ (1 ≤ U) ∧ (U ≤ 4) ∧ (σ.1.1 21 6 = nI d) ∧ (τ.1.1 0 23 = nI d) ∧ (d ≤ 16) ∧ (STK σ τ N U d (σ.1.1 21 5)) ∧ (∀ e, e < N → ∃ u, u < U ∧ EN1 σ τ e u) ∧ (∀ u, u < U → UN1 σ τ N u (fs u)) ∧ (∀ u, u + 1 < U → fs u < N) ∧ (σ.1.1 22 7 = nI na) ∧ (τ.1.1 0 13 = nI na) ∧ (na ≤ 40) ∧ (∀ a, a < na → AB1 σ τ a) ∧ (N = fs (U - 1) → d = 0 ∧ ∀ k, k < 4 → σ.2.1 19 (4 * (U - 1) + k) = 0 ∧ σ.2.2 20 (4 * (U - 1) + k) = 0)
theorem LPZ_g {σ τ : am_S} {p q N U : Nat} {fs : Nat → Nat} {d na : Nat} (h : LPZ σ τ p q N U fs d na) : RG 30 σ τ p q := h.1
theorem LPZ_n {σ τ : am_S} {p q N U : Nat} {fs : Nat → Nat} {d na : Nat} (h : LPZ σ τ p q N U fs d na) : σ.1.1 10 10 = nI N := h.2.1
theorem LPZ_m {σ τ : am_S} {p q N U : Nat} {fs : Nat → Nat} {d na : Nat} (h : LPZ σ τ p q N U fs d na) : τ.1.1 0 22 = nI N := h.2.2.1
theorem LPZ_l {σ τ : am_S} {p q N U : Nat} {fs : Nat → Nat} {d na : Nat} (h : LPZ σ τ p q N U fs d na) : N ≤ 200 := h.2.2.2.1
theorem LPZ_u {σ τ : am_S} {p q N U : Nat} {fs : Nat → Nat} {d na : Nat} (h : LPZ σ τ p q N U fs d na) : σ.1.1 10 11 = nI U := h.2.2.2.2.1
theorem LPZ_v {σ τ : am_S} {p q N U : Nat} {fs : Nat → Nat} {d na : Nat} (h : LPZ σ τ p q N U fs d na) : τ.1.1 0 21 = nI U := h.2.2.2.2.2.1
theorem LPZ_u1 {σ τ : am_S} {p q N U : Nat} {fs : Nat → Nat} {d na : Nat} (h : LPZ σ τ p q N U fs d na) : 1 ≤ U := h.2.2.2.2.2.2.1
theorem LPZ_u4 {σ τ : am_S} {p q N U : Nat} {fs : Nat → Nat} {d na : Nat} (h : LPZ σ τ p q N U fs d na) : U ≤ 4 := h.2.2.2.2.2.2.2.1
theorem LPZ_d {σ τ : am_S} {p q N U : Nat} {fs : Nat → Nat} {d na : Nat} (h : LPZ σ τ p q N U fs d na) : σ.1.1 21 6 = nI d := h.2.2.2.2.2.2.2.2.1
theorem LPZ_e {σ τ : am_S} {p q N U : Nat} {fs : Nat → Nat} {d na : Nat} (h : LPZ σ τ p q N U fs d na) : τ.1.1 0 23 = nI d := h.2.2.2.2.2.2.2.2.2.1
theorem LPZ_d16 {σ τ : am_S} {p q N U : Nat} {fs : Nat → Nat} {d na : Nat} (h : LPZ σ τ p q N U fs d na) : d ≤ 16 := h.2.2.2.2.2.2.2.2.2.2.1
theorem LPZ_s {σ τ : am_S} {p q N U : Nat} {fs : Nat → Nat} {d na : Nat} (h : LPZ σ τ p q N U fs d na) : STK σ τ N U d (σ.1.1 21 5) := h.2.2.2.2.2.2.2.2.2.2.2.1
theorem LPZ_en {σ τ : am_S} {p q N U : Nat} {fs : Nat → Nat} {d na : Nat} (h : LPZ σ τ p q N U fs d na) : ∀ e, e < N → ∃ u, u < U ∧ EN1 σ τ e u := h.2.2.2.2.2.2.2.2.2.2.2.2.1
theorem LPZ_un {σ τ : am_S} {p q N U : Nat} {fs : Nat → Nat} {d na : Nat} (h : LPZ σ τ p q N U fs d na) : ∀ u, u < U → UN1 σ τ N u (fs u) := h.2.2.2.2.2.2.2.2.2.2.2.2.2.1
theorem LPZ_fl {σ τ : am_S} {p q N U : Nat} {fs : Nat → Nat} {d na : Nat} (h : LPZ σ τ p q N U fs d na) : ∀ u, u + 1 < U → fs u < N := h.2.2.2.2.2.2.2.2.2.2.2.2.2.2.1
theorem LPZ_a {σ τ : am_S} {p q N U : Nat} {fs : Nat → Nat} {d na : Nat} (h : LPZ σ τ p q N U fs d na) : σ.1.1 22 7 = nI na := h.2.2.2.2.2.2.2.2.2.2.2.2.2.2.2.1
theorem LPZ_b {σ τ : am_S} {p q N U : Nat} {fs : Nat → Nat} {d na : Nat} (h : LPZ σ τ p q N U fs d na) : τ.1.1 0 13 = nI na := h.2.2.2.2.2.2.2.2.2.2.2.2.2.2.2.2.1
theorem LPZ_na {σ τ : am_S} {p q N U : Nat} {fs : Nat → Nat} {d na : Nat} (h : LPZ σ τ p q N U fs d na) : na ≤ 40 := h.2.2.2.2.2.2.2.2.2.2.2.2.2.2.2.2.2.1
theorem LPZ_ab {σ τ : am_S} {p q N U : Nat} {fs : Nat → Nat} {d na : Nat} (h : LPZ σ τ p q N U fs d na) : ∀ a, a < na → AB1 σ τ a := h.2.2.2.2.2.2.2.2.2.2.2.2.2.2.2.2.2.2.1
theorem LPZ_z {σ τ : am_S} {p q N U : Nat} {fs : Nat → Nat} {d na : Nat} (h : LPZ σ τ p q N U fs d na) : N = fs (U - 1) → d = 0 ∧ ∀ k, k < 4 → σ.2.1 19 (4 * (U - 1) + k) = 0 ∧ σ.2.2 20 (4 * (U - 1) + k) = 0 := h.2.2.2.2.2.2.2.2.2.2.2.2.2.2.2.2.2.2.2
theorem SL_0 {σ τ : am_S} {i j : Nat} (h1 : σ.2.1 15 i = 0) (h2 : τ.2.1 20 j = 0) : SL σ τ i j := ⟨h1.trans h2.symm, Or.inl h2, fun z => absurd h2 z, fun z => absurd (z.symm.trans h2) (by decide)⟩
theorem US_0 {σ τ : am_S} {i j : Nat} (h1 : σ.2.1 19 i = 0) (h2 : τ.2.1 20 j = 0) (h3 : σ.2.2 20 i = 0) : US σ τ i j := ⟨h1.trans h2.symm, Or.inl h2, fun z => absurd h2 z, fun _ => h3⟩
theorem en_e {σ τ : am_S} {p q N U d na a pl : Nat} {fs : Nat → Nat} (h : LPZ σ τ p q N U fs d na) (ha : a < na) (hN : N < 200) (hc : (N = fs (U - 1) ∧ σ.2.2 24 a = 17) ∨ (¬ N = fs (U - 1) ∧ ¬ σ.2.2 24 a = 17 ∧ 0 < d)) (hpl : pl ≤ 3000) : R2 (g_Ur_readEntry_76 (nI pl) (nI a) σ) (g_Mo_readEntry (nI pl) (nI a) τ) (fun x s _ t => (BD 30 s t ∧ x = 0) ∨ ∃ p', p ≤ p' ∧ ((t.2.1 10 a = 0 ∧ x = 1 ∧ LPZ s t p' q (N + 1) U fs d na) ∨ (¬ t.2.1 10 a = 0 ∧ t.1.1 0 23 = nI d ∧ t.1.1 0 22 = nI (N + 1) ∧ t.1.1 0 8 = 0 ∧ ((d = 16 ∧ x = 0) ∨ (d < 16 ∧ x = 1 ∧ LPZ s (am_fi (am_ai t 15 d (nI N)) 0 23 (nI (d + 1))) p' q (N + 1) U fs (d + 1) na))))) := by
  have hna := LPZ_na h
  have hu1 := LPZ_u1 h
  have hu4 := LPZ_u4 h
  have hd16 := LPZ_d16 h
  obtain ⟨A1, A2, A3, m, hm, A4, A5, A6⟩ := LPZ_ab h a ha
  unfold g_Ur_readEntry_76
  rw [inb_nI (show a < 40 by omega) (by decide), gd_t, nI_clamp (by omega)]
  refine R2_l (ad_c (x := σ.2.2 24 a) (l := σ.1.1 21 5) (pl := nI pl) hN hu1 (LPZ_n h) (LPZ_u h)) (fun _ s1 _ k1 => ?_)
  obtain ⟨B1, B2, B3, B4, B5, B6, B7, B8⟩ := k1
  refine R2_2 (me_m (pl := nI pl) hN hu1 (by omega) (LPZ_m h) (LPZ_v h) (LPZ_e h) hd16 (fun t1 C1 C2 C3 C4 C5 C6 C7 => ?_))
  rw [← A2] at C5
  refine R1_2 ?_
  have hG := LPZ_g h
  have G1 : RG 30 s1 t1 p q := RG_fr hG B2 C1 (by decide)
  -- the unit's window for the unit's own slots
  obtain ⟨L, hL, hLo, hL4⟩ : ∃ L, (s1.2.2 11 N = 17 → L ≤ 4 * (U - 1)) ∧ (∀ e, e < N → ∀ u, u < U → EN1 σ τ e u → 4 * u + 4 ≤ L) ∧ L ≤ 4 * U := by
    rcases hc with ⟨c1, c2⟩ | ⟨c1, c2, c3⟩
    · refine ⟨4 * (U - 1), fun _ => Nat.le_refl _, fun e he u hu E => ?_, by omega⟩
      have hw := (LPZ_un h (U - 1) (by omega)).2.2.2.2.2 e he u (by omega) E.1
      have : ¬ U - 1 ≤ u := fun z => by have := hw.mpr z; omega
      omega
    · exact ⟨4 * U, fun z => absurd (B5.symm.trans z) c2, fun e he u hu _ => by omega, by omega⟩
  have hF1 : FO s1 t1 N (U - 1) := by
    refine ⟨fun _ k hk => SL_0 (B4 k hk) (C3 k (by omega)), fun _ k hk => B4 k hk, fun h17 k hk => ?_⟩
    rcases hc with ⟨c1, c2⟩ | ⟨c1, c2, c3⟩
    · have hz := (LPZ_z h c1).2 k hk
      exact US_0 (by rw [fr_b B2 (by decide)]; exact hz.1) (C3 (7 + k) (by omega)) (by rw [fr_c B2 (by decide)]; exact hz.2)
    · exact absurd (B5.symm.trans h17) c2
  have hT1 : ∀ i, i < m → AT s1 t1 (12 * a + i) := fun i hi => by
    unfold AT
    rw [fr_c B2 (by decide), fr_c B2 (by decide), fr_b B2 (by decide), fr_c C1 (by decide), fr_c C1 (by decide), fr_b C1 (by decide)]
    exact A6 i hi
  rw [show nI a * 12 = nI (12 * a) from (pk_mul a 12).trans (by rw [Nat.mul_comm])]
  refine ea_l (p0 := p) (L := L) (e := N) (u := U - 1) (σ0 := s1) (τ0 := t1) (by omega) hm hN (by omega) hL (by rw [fr_b B2 (by decide)]; exact A4) (by rw [fr_b C1 (by decide)]; exact A5) hT1 B1 B7 (fun s t p' f1 g1 n1 n2 hp G F => ?_) (fun s t f1 g1 b => ?_) m 0 (by omega) s1 t1 p fr_rf fr_rf NR_rf NR_rf G1 (Nat.le_refl _) hF1 4000 4000 (by omega) (by omega)
  · unfold g_Ur_readEntry_190 g_Mo_readEntry_235 g_Ur_readEntry_226 g_Ur_readEntry_249 g_Ur_readEntry_250
    have E22 : t.1.1 0 22 = nI N := (fr_i g1 (by decide)).trans ((fr_i C1 rfl).trans (LPZ_m h))
    have E23 : t.1.1 0 23 = nI d := (fr_i g1 (by decide)).trans ((fr_i C1 rfl).trans (LPZ_e h))
    have E6 : s.1.1 21 6 = nI d := (fr_i f1 (by decide)).trans ((fr_i B2 (by decide)).trans (LPZ_d h))
    have E5 : s.1.1 21 5 = σ.1.1 21 5 := (fr_i f1 (by decide)).trans (fr_i B2 (by decide))
    have E10 : s.1.1 10 10 = nI (N + 1) := (fr_i f1 (by decide)).trans B1
    have E25 : s.2.1 25 a = t.2.1 10 a := by
      rw [fr_b f1 (by decide), fr_b B2 (by decide), fr_b g1 (by decide), fr_b C1 (by decide)]
      exact A3
    rw [inb_nI (show a < 40 by omega) (by decide), gd_t, nI_clamp (n := a) (by omega), E25, E22, E10, E6, show nI N + 1 = nI (N + 1) from nI_add N 1, show nI (N + 1) - 1 = nI N from nI_pred N, show nI d + 1 = nI (d + 1) from nI_add d 1]
    -- what both kinds of end share
    have KC : KEL (CL N L U) σ s := KEL_tr (KEL_nr B3 (by simp [CL])) (KEL_nr n1 (by simp [CL]))
    have KM' : KEL (ML N U) τ t := KEL_tr (KEL_nr C2 (by simp [ML])) (KEL_nr n2 (by simp [ML]))
    have hb1 : s.2.1 1 = σ.2.1 1 := (fr_b f1 (by decide)).trans (fr_b B2 (by decide))
    have T11 : s.2.2 11 N = σ.2.2 24 a := by rw [fr_c f1 (by decide)]; exact B5
    have T12 : s.2.1 12 N = σ.1.1 21 5 := by rw [fr_b f1 (by decide)]; exact B6
    have T13 : s.2.1 13 N = nI (U - 1) := by rw [fr_b f1 (by decide)]; exact B7
    have k12 : ∀ j, j < N → s.2.1 12 j = σ.2.1 12 j := fun j hj => KEL_i KC N (by simp [CL]) hj
    have k13 : ∀ j, j < N → s.2.1 13 j = σ.2.1 13 j := fun j hj => KEL_i KC N (by simp [CL]) hj
    have hDP : DP s d N := by
      have hs := LPZ_s h
      match d, hs with
      | 0, hs => show s.2.1 12 N = -1; rw [T12]; exact hs
      | d + 1, hs =>
        obtain ⟨a', ha', e1, e2, e3, e4, e5⟩ := hs
        exact ⟨a', ha', T12.trans e1, DP_up k12 k13 d a' ha' e3, (k13 a' ha').trans (e4.trans T13.symm)⟩
    have hEN : EN1 s t N (U - 1) := by
      refine ⟨T13, ?_, ?_, ?_, ⟨pl, hpl, ?_, ?_⟩, F, ⟨d, hd16, hDP, ?_⟩, fun h17 => ?_⟩
      · rw [fr_b g1 (by decide)]; exact C7
      · rw [fr_b g1 (by decide), T11]; exact C5
      · rw [T12, fr_b g1 (by decide), C6]
        have hs := LPZ_s h
        match d, hs with
        | 0, hs => exact hs
        | d + 1, hs =>
          obtain ⟨a', ha', e1, e2, _⟩ := hs
          rw [if_neg (by omega)]
          exact e1.trans e2.symm
      · rw [fr_b f1 (by decide)]; exact B8
      · rw [fr_b g1 (by decide)]; exact C4
      · rw [T11]
        rcases hc with ⟨c1, c2⟩ | ⟨c1, c2, c3⟩
        · exact ⟨fun _ => c2, fun _ => (LPZ_z h c1).1⟩
        · exact ⟨fun z => by omega, fun z => absurd z c2⟩
      · rcases hc with ⟨c1, c2⟩ | ⟨c1, c2, c3⟩
        · rw [fr_b f1 (by decide), fr_b B2 (by decide), (LPZ_un h (U - 1) (by omega)).2.1, ← c1]
        · exact absurd (T11.symm.trans h17) c2
    have hENS : ∀ e, e < N + 1 → ∃ u, u < U ∧ EN1 s t e u := fun e he => by
      by_cases c : e = N
      · exact ⟨U - 1, by omega, c ▸ hEN⟩
      · obtain ⟨u, hu, E⟩ := LPZ_en h e (by omega)
        exact ⟨u, hu, EN1_up E (by omega) (hLo e (by omega) u hu E) hu KC KM' hb1⟩
    have hUNS : ∀ u, u < U → UN1 s t (N + 1) u (fs u) := fun u hu => by
      obtain ⟨q1, q2, q3, q4, q5, q6⟩ := UN1_up (LPZ_un h u hu) hu KC KM'
      refine ⟨by omega, q2, q3, q4, fun z => ?_, fun e he v hv ev => ?_⟩
      · by_cases c : fs u < N
        · exact q5 c
        · have hu' : u = U - 1 := by
            apply Classical.byContradiction
            intro z2
            have := LPZ_fl h u (by omega)
            omega
          subst hu'
          have cN : N = fs (U - 1) := by omega
          rw [← cN, T11, T13]
          rcases hc with ⟨c1, c2⟩ | ⟨c1, c2, c3⟩
          · exact ⟨rfl, c2⟩
          · exact absurd cN c1
      · by_cases c : e = N
        · subst c
          have := (nI_eq (by omega) (by omega)).mp (T13.symm.trans ev)
          omega
        · exact q6 e (by omega) v hv ev
    have hABS : ∀ x, x < na → AB1 s t x := fun x hx => AB1_fr (AB1_fr (LPZ_ab h x hx) B2 C1 (by decide)) f1 g1 (by decide)
    have hp15 : t.2.1 15 = τ.2.1 15 := (fr_b g1 (by decide)).trans (fr_b C1 (by decide))
    have hSTK : STK s t (N + 1) U d (σ.1.1 21 5) := STK_up (by omega) k12 k13 d _ (fun j _ => by rw [hp15]) (LPZ_s h)
    have S11 : s.1.1 10 11 = nI U := (fr_i f1 (by decide)).trans ((fr_i B2 (by decide)).trans (LPZ_u h))
    have S7 : s.1.1 22 7 = nI na := (fr_i f1 (by decide)).trans ((fr_i B2 (by decide)).trans (LPZ_a h))
    have T21 : t.1.1 0 21 = nI U := (fr_i g1 (by decide)).trans ((fr_i C1 rfl).trans (LPZ_v h))
    have T13' : t.1.1 0 13 = nI na := (fr_i g1 (by decide)).trans ((fr_i C1 rfl).trans (LPZ_b h))
    have fsle : fs (U - 1) ≤ N := (LPZ_un h (U - 1) (by omega)).1
    have hfl : ∀ u, u + 1 < U → fs u < N + 1 := fun u hu => by have := LPZ_fl h u hu; omega
    by_cases ch : t.2.1 10 a = 0
    · rw [if_pos ch, if_pos (RG_3 G), if_neg (show ¬ 16 < nI d from nI_nlt (a := 16) (by omega) (by omega))]
      refine R2_p (Or.inr ⟨p', hp, Or.inl ⟨ch, rfl, ?_⟩⟩)
      exact ⟨⟨G.1, RU_fr G.2.1 (fr_fi (W := [(0, 22)]) (A := []) fr_rf (by simp)) (by decide) (by decide) (by decide), G.2.2⟩, E10, fi_at, by omega, S11, (fi_no (Or.inl (by decide))).trans T21, hu1, hu4, E6, (fi_no (Or.inl (by decide))).trans E23, hd16, by rw [E5]; exact STK_up (σ := s) (τ := t) (Nat.le_refl _) (fun _ _ => rfl) (fun _ _ => rfl) d _ (fun _ _ => rfl) hSTK, hENS, hUNS, hfl, S7, (fi_no (Or.inl (by decide))).trans T13', hna, hABS, fun z => by omega⟩
    · rw [if_neg ch, if_pos (show (am_fi (am_fi s 21 5 (nI N)) 21 6 (nI (d + 1))).1.1 30 3 = 0 by rw [fi_no (Or.inl (by decide)), fi_no (Or.inl (by decide))]; exact RG_3 G), fi_at]
      by_cases c16 : d = 16
      · rw [if_pos (show 16 < nI (d + 1) from nI_lt (a := 16) (by omega) (by omega))]
        refine R2_p (Or.inr ⟨p', hp, Or.inr ⟨ch, (fi_no (Or.inl (by decide))).trans E23, fi_at, (fi_no (Or.inl (by decide))).trans (RG_8 G), Or.inl ⟨c16, rfl⟩⟩⟩)
      · rw [if_neg (show ¬ 16 < nI (d + 1) from nI_nlt (a := 16) (by omega) (by omega))]
        refine R2_p (Or.inr ⟨p', hp, Or.inr ⟨ch, (fi_no (Or.inl (by decide))).trans E23, fi_at, (fi_no (Or.inl (by decide))).trans (RG_8 G), Or.inr ⟨by omega, rfl, ?_⟩⟩⟩)
        have fC : FR [(21, 5), (21, 6)] [] s (am_fi (am_fi s 21 5 (nI N)) 21 6 (nI (d + 1))) := fr_fi (fr_fi fr_rf (by simp)) (by simp)
        have fM : FR [(0, 22), (0, 23)] [15] t (am_fi (am_ai (am_fi t 0 22 (nI (N + 1))) 15 d (nI N)) 0 23 (nI (d + 1))) := fr_fi (fr_ai (fr_fi fr_rf (by simp)) (by simp)) (by simp)
        have KC2 : ∀ M V, KEL (CL M (4 * U) V) s (am_fi (am_fi s 21 5 (nI N)) 21 6 (nI (d + 1))) := fun M V => KEL_fr fC (by simp)
        have KM2 : ∀ M V, KEL (ML M V) t (am_fi (am_ai (am_fi t 0 22 (nI (N + 1))) 15 d (nI N)) 0 23 (nI (d + 1))) := fun M V => KEL_fr fM (by simp [ML])
        refine ⟨RG_fr G fC fM (by decide), (fr_i fC (by decide)).trans E10, ?_, by omega, (fr_i fC (by decide)).trans S11, (fr_i fM (by decide)).trans T21, hu1, hu4, fi_at, fi_at, by omega, ?_, fun e he => ?_, fun u hu => UN1_up (hUNS u hu) hu (KC2 (N + 1) U) (KM2 (N + 1) U), hfl, (fr_i fC (by decide)).trans S7, (fr_i fM (by decide)).trans T13', hna, fun x hx => AB1_fr (hABS x hx) fC fM (by decide), fun z => by omega⟩
        · rw [fi_no (Or.inl (by decide)), ai_f, fi_at]
        · rw [fi_no (Or.inl (by decide)), fi_at]
          refine ⟨N, by omega, rfl, ?_, DP_up (N := N + 1) (σ := s) (s := am_fi (am_fi s 21 5 (nI N)) 21 6 (nI (d + 1))) (fun _ _ => rfl) (fun _ _ => rfl) d N (by omega) hDP, T13, ?_⟩
          · rw [fi_a, ai_at]
          · show STK _ _ (N + 1) U d (s.2.1 12 N)
            rw [T12]
            exact STK_up (N := N + 1) (σ := s) (τ := t) (s := am_fi (am_fi s 21 5 (nI N)) 21 6 (nI (d + 1))) (t := am_fi (am_ai (am_fi t 0 22 (nI (N + 1))) 15 d (nI N)) 0 23 (nI (d + 1))) (Nat.le_refl _) (fun _ _ => rfl) (fun _ _ => rfl) d _ (fun j hj => ai_no (Or.inr (show j ≠ d by omega))) hSTK
        · obtain ⟨u, hu, E⟩ := hENS e he
          exact ⟨u, hu, EN1_up E he (by omega) hu (KC2 (N + 1) U) (KM2 (N + 1) U) rfl⟩
  · unfold g_Ur_readEntry_190 g_Mo_readEntry_235 g_Ur_readEntry_226 g_Ur_readEntry_249 g_Ur_readEntry_250
    rw [inb_nI (show a < 40 by omega) (by decide), gd_t]
    have b2 : BD 30 s (am_fi t 0 22 (t.1.1 0 22 + 1)) := ⟨b.1, by rw [fi_no (Or.inl (by decide))]; exact b.2⟩
    by_cases ch : s.2.1 25 (nI a).toNatClampNeg = 0
    · rw [if_pos ch, if_neg b.1]
      exact R2_p (Or.inl ⟨b2, rfl⟩)
    · rw [if_neg ch, if_neg (by rw [fi_no (Or.inl (by decide)), fi_no (Or.inl (by decide))]; exact b.1)]
      refine R2_p (Or.inl ⟨⟨?_, b2.2⟩, rfl⟩)
      rw [fi_no (Or.inl (by decide)), fi_no (Or.inl (by decide))]; exact b.1
