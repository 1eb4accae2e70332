/-! tables of folders and files, both sides -/
def CW : List (Nat × Nat) := [(9, 1), (9, 2), (9, 3), (49, 6), (49, 7), (51, 1), (51, 3)]
/-- where a table is read: forms known -/
def TS (σ τ : am_S) (A Z : Nat → Nat) (p q n : Nat) (nm : Int32) : Prop := RG 51 σ τ p q ∧ SXc σ A Z ∧ SXm τ A Z ∧ σ.1.1 49 6 = nI n ∧ σ.1.1 49 7 = nm ∧ FMt σ τ n nm ∧ n ≤ 6
theorem TS_up {σ τ s t : am_S} {A Z : Nat → Nat} {p p' q n : Nat} {nm : Int32} {W W' : List (Nat × Nat)} {B B' : List Nat} (h : TS σ τ A Z p q n nm) (f : FR W B σ s) (g : FR W' B' τ t) (G : RG 51 s t p' q) (c : (W.contains (49, 6) || W.contains (49, 7) || B.contains 6 || B.contains 7 || B.contains 50 || B'.contains 3 || B'.contains 4 || B'.contains 29) = false) : TS s t A Z p' q n nm := by
  simp only [Bool.or_eq_false_iff] at c
  obtain ⟨⟨⟨⟨⟨⟨⟨c1, c2⟩, c3⟩, c4⟩, c5⟩, c6⟩, c7⟩, c8⟩ := c
  obtain ⟨h1, h2, h3, h4, h5, h6, h7⟩ := h
  exact ⟨G, fun k hk => by rw [fr_b f c3, fr_b f c4]; exact h2 k hk, fun k hk => by rw [fr_b g c6, fr_b g c7]; exact h3 k hk, (fr_i f c1).trans h4, (fr_i f c2).trans h5, FMt_up h6 (fun m _ => by rw [fr_b f c5]) (fun m _ => by rw [fr_b g c8]), h7⟩
theorem on_l {σ τ : am_S} {A Z : Nat → Nat} {p q n : Nat} {nm : Int32} (h : TS σ τ A Z p q n nm) : R2 (g_Li_readName σ) (g_Mo_readOne (nI n) nm τ) (NP σ τ p q n) := rn_l h.2.2.2.2.2.2 n 0 (by omega) σ τ p (-1) (by omega) h.1 fr_rf fr_rf h.2.1 h.2.2.1 h.2.2.2.1 h.2.2.2.2.1 h.2.2.2.2.2.1 (Or.inl rfl) 4000 4000 (by have := h.2.2.2.2.2.2; omega) (by have := h.2.2.2.2.2.2; omega)
theorem n115 {σ : am_S} (h : ¬ σ.1.1 51 3 = 0) : g_Li_readNames_115 σ = some (0, σ) := by
  unfold g_Li_readNames_115 g_Li_readNames_130
  rw [if_neg h]
  rfl
theorem n71b {N : Nat} {x1 x2 x5 : Int32} {x3 : Int64} {σ : am_S} (h : ¬ σ.1.1 51 3 = 0) : g_Li_readNames_71 (N + 1) x1 x2 x3 x5 σ = some (0, σ) := by
  rw [g_Li_readNames_71, if_neg h, n115 h]
  simp only [ite_self]
def FX (σ τ : am_S) (u i : Nat) : Prop := ∀ k, k < i → σ.2.1 48 (30 * u + k) = τ.2.1 26 (30 * u + k) ∧ PL (σ.2.1 1) (σ.2.1 48 (30 * u + k))
def TP (σ0 τ0 : am_S) (u p q b : Nat) (x : Int32) (s : am_S) (y : Int32) (t : am_S) : Prop := FR CW [47, 48, 50] σ0 s ∧ FR [(0, 6), (0, 8)] [25, 26, 29] τ0 t ∧ NR [(47, u), (48, 30 * u), (50, 0)] σ0 s ∧ NR [(25, u), (26, 30 * u), (29, 0)] τ0 t ∧ ((x = 0 ∧ y = 0) ∨ (x = 1 ∧ y = 1 ∧ (∃ p', p ≤ p' ∧ RG 51 s t p' q) ∧ (b = 1 → ∃ T, T ≤ 30 ∧ s.2.1 47 u = nI T ∧ t.2.1 25 u = nI T ∧ FX s t u T) ∧ (b = 0 → s.2.1 47 = σ0.2.1 47)))
theorem fi_l' {σ0 τ0 : am_S} {A Z : Nat → Nat} {q n u T p0 : Nat} {nm : Int32} (hu : u < 4) (hT : T ≤ 30) : ∀ j i, i + j = T → ∀ (σ τ : am_S) (p : Nat), p0 ≤ p → TS σ τ A Z p q n nm → FR CW [47, 48, 50] σ0 σ → FR [(0, 6), (0, 8)] [25, 26, 29] τ0 τ → NR [(47, u), (48, 30 * u), (50, 0)] σ0 σ → NR [(25, u), (26, 30 * u), (29, 0)] τ0 τ → σ.2.1 47 u = nI i → τ.2.1 25 u = nI T → FX σ τ u i → ∀ N N', j < N → j < N' → R2 (g_Li_readNames_71 N (nI u) 1 (lN T) (nI i) σ) (g_Mo_readTable_87 N' (nI u) 1 (nI n) nm (lN T) (lN i) τ) (TP σ0 τ0 u p0 q 1) := by
  intro j
  induction j with
  | zero =>
    intro i hi σ τ p hp h f0 g0 n0 m0 h47 h25 hX N N' hN hN'
    obtain ⟨N, rfl⟩ : ∃ z, N = z + 1 := ⟨N - 1, by omega⟩
    obtain ⟨N', rfl⟩ : ∃ z, N' = z + 1 := ⟨N' - 1, by omega⟩
    obtain rfl : i = T := by omega
    have nl : ¬ lg_cmp (lN i) (lN i) < 0 := fun z => by
      have := (lN_lt (by omega) (by omega)).mp ((cmp_lt _ _).mp z)
      omega
    have nz : ¬ lg_cmp (lN i) 0 < 0 := fun z => by
      have := (lN_lt (b := 0) (by omega) (by omega)).mp ((cmp_lt _ _).mp z)
      omega
    unfold g_Li_readNames_71 g_Li_readNames_115 g_Li_readNames_130 g_Mo_readTable_87 g_Mo_readTable_106 g_Mo_readTable_164
    rw [nI_l (by omega), if_neg nl, if_neg nl, if_neg nz, if_neg i10, if_neg nl, if_pos (RG_3 h.1)]
    exact R2_p ⟨f0, g0, n0, m0, Or.inr ⟨rfl, rfl, ⟨p, hp, h.1⟩, fun _ => ⟨i, hT, h47, h25, hX⟩, fun z => by omega⟩⟩
  | succ j ih =>
    intro i hi σ τ p hp h f0 g0 n0 m0 h47 h25 hX N N' hN hN'
    obtain ⟨N, rfl⟩ : ∃ z, N = z + 1 := ⟨N - 1, by omega⟩
    obtain ⟨N', rfl⟩ : ∃ z, N' = z + 1 := ⟨N' - 1, by omega⟩
    have yl : lg_cmp (lN i) (lN T) < 0 := (cmp_lt _ _).mpr ((lN_lt (by omega) (by omega)).mpr (by omega))
    have e118 : g_Mo_readTable_87 (N' + 1) (nI u) 1 (nI n) nm (lN T) (lN i) τ = g_Mo_readTable_118 (g_Mo_readTable_87 N') (nI u) 1 (nI n) nm (lN T) (lN i) τ := by
      unfold g_Mo_readTable_87 g_Mo_readTable_102 g_Mo_readTable_106
      rw [if_pos yl, if_neg i10, if_pos yl]
      simp only [ite_self]
    rw [e118]
    unfold g_Mo_readTable_118 g_Mo_readTable_155
    rw [g_Li_readNames_71, nI_l (by omega), if_pos yl, if_pos (RG_3 h.1)]
    obtain ⟨x1, s1, y1, t1, e1, e1', f1, g1, k1⟩ := on_l h
    rw [e1, e1', bd_t, bd_t, if_neg i10, if_neg i10]
    unfold g_Ro_addFile g_Li_readNames_109
    have s47 : s1.2.1 47 u = nI i := by rw [fr_b f1 (by decide)]; exact h47
    rw [inb_nI (n := u) hu (by decide), nI_clamp (n := u) (by omega), s47, show nI u * 30 = nI (30 * u) from (pk_mul u 30).trans (by rw [Nat.mul_comm]), nI_add, inb_nI (n := 30 * u + i) (by omega) (by decide), nI_clamp (n := 30 * u + i) (by omega)]
    simp only [gd_t]
    rw [bd_t, show (am_ai s1 48 (30 * u + i) x1).2.1 47 u = nI i from (by rw [ai_no (Or.inl (by decide))]; exact s47), show nI i + 1 = nI (i + 1) from nI_add i 1, show (30 : Int32) * nI u = nI (30 * u) from pk_mul 30 u, lN_i, nI_add, inb_nI (n := 30 * u + i) (by omega) (by decide), nI_clamp (n := 30 * u + i) (by omega), gd_t, lN_1]
    have F1 : FR CW [47, 48, 50] σ0 s1 := fr_tr f0 (fr_up f1 (by decide) (fun _ h => by cases h))
    have K1 : FR [(0, 6), (0, 8)] [25, 26, 29] τ0 t1 := fr_tr g0 (fr_up g1 (fun _ h => h) (fun _ h => by cases h))
    have fC : FR [] [47, 48] s1 (am_ai (am_ai s1 48 (30 * u + i) x1) 47 u (nI (i + 1))) := fr_ai (fr_ai fr_rf (by simp)) (by simp)
    have fM : FR [] [26] t1 (am_ai t1 26 (30 * u + i) y1) := fr_ai fr_rf (by simp)
    have F2 := fr_tr F1 (fr_up (W' := CW) (A' := [47, 48, 50]) fC (fun _ h => by cases h) (by decide))
    have K2 := fr_tr K1 (fr_up (W' := [(0, 6), (0, 8)]) (A' := [25, 26, 29]) fM (fun _ h => by cases h) (by decide))
    have N2 : NR [(47, u), (48, 30 * u), (50, 0)] σ0 (am_ai (am_ai s1 48 (30 * u + i) x1) 47 u (nI (i + 1))) := NR_ai (NR_ai (NR_fr n0 f1) (L := 30 * u) (by simp) (by omega)) (L := u) (by simp) (Nat.le_refl _)
    rcases k1 with ⟨rfl, hP, p1, hp1, G1⟩ | ⟨rfl, b1⟩
    · rw [if_neg (PL_2 hP)]
      have h1 : TS s1 t1 A Z p1 q n nm := TS_up h f1 g1 G1 (by decide)
      refine ih (i + 1) (by omega) _ _ p1 (by omega) (TS_up h1 fC fM (RG_fr G1 fC fM (by decide)) (by decide)) F2 K2 N2 (NR_ai (NR_fr m0 g1) (L := 30 * u) (by simp) (by omega)) ai_at ?_ (fun k hk => ?_) N N' (by omega) (by omega)
      · rw [ai_r (by decide), fr_b g1 (by decide)]; exact h25
      · rw [ai_no (Or.inl (by decide)), show (am_ai (am_ai s1 48 (30 * u + i) y1) 47 u (nI (i + 1))).2.1 1 = σ.2.1 1 from (by rw [ai_r (by decide), ai_r (by decide), fr_b f1 (by decide)])]
        by_cases ck : k = i
        · subst ck
          rw [ai_at, ai_at]
          exact ⟨rfl, hP⟩
        · rw [ai_no (Or.inr (by omega)), ai_no (Or.inr (by omega)), fr_b f1 (by decide), fr_b g1 (by decide)]
          exact hX k (by omega)
    · rw [if_pos rfl]
      obtain ⟨N, rfl⟩ : ∃ z, N = z + 1 := ⟨N - 1, by omega⟩
      rw [n71b (by rw [ai_f, ai_f]; exact b1.1)]
      exact R2_p ⟨F2, K1, N2, NR_fr m0 g1, Or.inl ⟨rfl, rfl⟩⟩
theorem fo_l' {σ0 τ0 : am_S} {A Z : Nat → Nat} {q n u T p0 : Nat} {nm : Int32} (hn : 0 < n) (hT : T ≤ 3000) : ∀ j i, i + j = T → ∀ (σ τ : am_S) (p : Nat), p0 ≤ p → TS σ τ A Z p q n nm → FR CW [47, 48, 50] σ0 σ → FR [(0, 6), (0, 8)] [25, 26, 29] τ0 τ → NR [(47, u), (48, 30 * u), (50, 0)] σ0 σ → NR [(25, u), (26, 30 * u), (29, 0)] τ0 τ → σ.2.1 47 = σ0.2.1 47 → ∀ N N', j < N → j < N' → R2 (g_Li_readNames_71 N (nI u) 0 (lN T) (nI i) σ) (g_Mo_readTable_87 N' (nI u) 0 (nI n) nm (lN T) (lN i) τ) (TP σ0 τ0 u p0 q 0) := by
  intro j
  induction j with
  | zero =>
    intro i hi σ τ p hp h f0 g0 n0 m0 e47 N N' hN hN'
    obtain ⟨N, rfl⟩ : ∃ z, N = z + 1 := ⟨N - 1, by omega⟩
    obtain ⟨N', rfl⟩ : ∃ z, N' = z + 1 := ⟨N' - 1, by omega⟩
    obtain rfl : i = T := by omega
    have nl : ¬ lg_cmp (lN i) (lN i) < 0 := fun z => by
      have := (lN_lt (by omega) (by omega)).mp ((cmp_lt _ _).mp z)
      omega
    have nz : ¬ lg_cmp (lN i) 0 < 0 := fun z => by
      have := (lN_lt (b := 0) (by omega) (by omega)).mp ((cmp_lt _ _).mp z)
      omega
    unfold g_Li_readNames_71 g_Li_readNames_115 g_Li_readNames_130 g_Mo_readTable_87 g_Mo_readTable_106 g_Mo_readTable_164
    rw [nI_l (by omega), if_neg nl, if_neg nl, if_neg nz, if_pos rfl, if_pos (RG_3 h.1)]
    exact R2_p ⟨f0, g0, n0, m0, Or.inr ⟨rfl, rfl, ⟨p, hp, h.1⟩, fun z => by omega, fun _ => e47⟩⟩
  | succ j ih =>
    intro i hi σ τ p hp h f0 g0 n0 m0 e47 N N' hN hN'
    obtain ⟨N, rfl⟩ : ∃ z, N = z + 1 := ⟨N - 1, by omega⟩
    obtain ⟨N', rfl⟩ : ∃ z, N' = z + 1 := ⟨N' - 1, by omega⟩
    have yl : lg_cmp (lN i) (lN T) < 0 := (cmp_lt _ _).mpr ((lN_lt (by omega) (by omega)).mpr (by omega))
    have h6 := h.2.2.2.2.2.2
    unfold g_Mo_readTable_87 g_Mo_readTable_102 g_Mo_readTable_118 g_Mo_readTable_155
    rw [g_Li_readNames_71, nI_l (by omega), if_pos yl, if_pos yl, if_pos (RG_3 h.1), if_pos (show 0 < nI n from nI_lt (a := 0) hn (by omega))]
    obtain ⟨x1, s1, y1, t1, e1, e1', f1, g1, k1⟩ := on_l h
    rw [e1, e1', bd_t, bd_t, if_pos rfl, if_pos rfl]
    unfold g_Li_readNames_109
    rw [show nI i + 1 = nI (i + 1) from nI_add i 1, lN_1]
    have F1 : FR CW [47, 48, 50] σ0 s1 := fr_tr f0 (fr_up f1 (by decide) (fun _ h => by cases h))
    have K1 : FR [(0, 6), (0, 8)] [25, 26, 29] τ0 t1 := fr_tr g0 (fr_up g1 (fun _ h => h) (fun _ h => by cases h))
    rcases k1 with ⟨rfl, hP, p1, hp1, G1⟩ | ⟨rfl, b1⟩
    · rw [if_neg (PL_2 hP)]
      exact ih (i + 1) (by omega) s1 t1 p1 (by omega) (TS_up h f1 g1 G1 (by decide)) F1 K1 (NR_fr n0 f1) (NR_fr m0 g1) ((fr_b f1 (by decide)).trans e47) N N' (by omega) (by omega)
    · rw [if_pos rfl]
      obtain ⟨N, rfl⟩ : ∃ z, N = z + 1 := ⟨N - 1, by omega⟩
      rw [n71b b1.1]
      exact R2_p ⟨F1, K1, NR_fr n0 f1, NR_fr m0 g1, Or.inl ⟨rfl, rfl⟩⟩
/-- more folders than the file has bytes -/
theorem fo_0 {σ0 τ0 : am_S} {A Z : Nat → Nat} {q n u : Nat} {nm : Int32} {x : Int64} (hn : 0 < n) (hx : x < 0 ∨ lN 3000 < x) : ∀ R p, q - p ≤ R → ∀ (σ τ : am_S) (k : Nat), k ≤ p → TS σ τ A Z p q n nm → FR CW [47, 48, 50] σ0 σ → FR [(0, 6), (0, 8)] [25, 26, 29] τ0 τ → NR [(25, u), (26, 30 * u), (29, 0)] τ0 τ → ∀ N', R < N' → R1 (g_Mo_readTable_87 N' (nI u) 0 (nI n) nm x (lN k) τ) (fun y t => y = 0 ∧ FR [(0, 6), (0, 8)] [25, 26, 29] τ0 t ∧ NR [(25, u), (26, 30 * u), (29, 0)] τ0 t) := by
  intro R
  induction R with
  | zero =>
    intro p hp σ τ k hk h f0 g0 m0 N' hN'
    obtain ⟨N', rfl⟩ : ∃ z, N' = z + 1 := ⟨N' - 1, by omega⟩
    have hq := RG_q h.1
    have h6 := h.2.2.2.2.2.2
    have e118 : g_Mo_readTable_87 (N' + 1) (nI u) 0 (nI n) nm x (lN k) τ = g_Mo_readTable_118 (g_Mo_readTable_87 N') (nI u) 0 (nI n) nm x (lN k) τ := by
      unfold g_Mo_readTable_87 g_Mo_readTable_102
      rw [if_pos (show 0 < nI n from nI_lt (a := 0) hn (by omega))]
      rcases hx with hx | hx
      · rw [if_pos ((cmp_lt _ _).mpr hx)]
        simp only [ite_self]
      · rw [if_pos]
        rw [cmp_lt]
        rw [Int64.lt_iff_toInt_lt, lN_toInt (by omega)] at *
        omega
    rw [e118]
    unfold g_Mo_readTable_118
    obtain ⟨x1, s1, y1, t1, e1, e1', f1, g1, k1⟩ := on_l h
    rw [e1', bd_t]
    rcases k1 with ⟨rfl, hP, p1, hp1, G1⟩ | ⟨rfl, b1⟩
    · have := RG_q G1
      omega
    · rw [if_pos rfl]
      exact R1_p ⟨rfl, fr_tr g0 (fr_up g1 (fun _ h => h) (fun _ h => by cases h)), NR_fr m0 g1⟩
  | succ R ih =>
    intro p hp σ τ k hk h f0 g0 m0 N' hN'
    obtain ⟨N', rfl⟩ : ∃ z, N' = z + 1 := ⟨N' - 1, by omega⟩
    have hq := RG_q h.1
    have h6 := h.2.2.2.2.2.2
    have e118 : g_Mo_readTable_87 (N' + 1) (nI u) 0 (nI n) nm x (lN k) τ = g_Mo_readTable_118 (g_Mo_readTable_87 N') (nI u) 0 (nI n) nm x (lN k) τ := by
      unfold g_Mo_readTable_87 g_Mo_readTable_102
      rw [if_pos (show 0 < nI n from nI_lt (a := 0) hn (by omega))]
      rcases hx with hx | hx
      · rw [if_pos ((cmp_lt _ _).mpr hx)]
        simp only [ite_self]
      · rw [if_pos]
        rw [cmp_lt]
        rw [Int64.lt_iff_toInt_lt, lN_toInt (by omega)] at *
        omega
    rw [e118]
    unfold g_Mo_readTable_118 g_Mo_readTable_155
    obtain ⟨x1, s1, y1, t1, e1, e1', f1, g1, k1⟩ := on_l h
    rw [e1', bd_t, if_pos rfl, lN_1]
    have F1 : FR CW [47, 48, 50] σ0 s1 := fr_tr f0 (fr_up f1 (by decide) (fun _ h => by cases h))
    have K1 : FR [(0, 6), (0, 8)] [25, 26, 29] τ0 t1 := fr_tr g0 (fr_up g1 (fun _ h => h) (fun _ h => by cases h))
    rcases k1 with ⟨rfl, hP, p1, hp1, G1⟩ | ⟨rfl, b1⟩
    · rw [if_neg (PL_2 hP)]
      have := RG_q G1
      exact ih p1 (by omega) s1 t1 (k + 1) (by omega) (TS_up h f1 g1 G1 (by decide)) F1 K1 (NR_fr m0 g1) N' (by omega)
    · rw [if_pos rfl]
      exact R1_p ⟨rfl, K1, NR_fr m0 g1⟩
