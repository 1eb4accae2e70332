/-! what holds between calls -/
def JB (σ τ : am_S) : Prop := ∃ len, len ≤ 3000 ∧ σ.1.1 0 10 = nI len ∧ τ.1.1 0 3 = nI len ∧ σ.2.1 1 = τ.2.1 2 ∧ BS (σ.2.1 1) ∧ SPE τ ∧ σ.1.1 0 12 = τ.1.1 0 4
def JO (σ τ : am_S) : Prop := σ.1.1 0 11 = 1 ∧ τ.1.1 0 5 = 1 ∧ σ.1.1 2 8 = τ.1.1 0 9 ∧ ∃ N U fs A Z bnd wb, OPN σ τ N U fs A Z bnd wb
def JJ (σ τ : am_S) : Prop := JB σ τ ∧ (∃ k, FRK σ τ k) ∧ ((σ.1.1 0 11 = 0 ∧ τ.1.1 0 5 = 0) ∨ JO σ τ)
theorem MF_1 {τ : am_S} {v : Int32} {j : Nat} {n f l : Int32} (h : MF τ j n f l) : MF (am_fi τ 0 1 v) j n f l := by
  obtain ⟨h1, h2, h3⟩ := h
  unfold MF
  rw [fi_fi]
  refine ⟨h1, fun i => ?_, ?_⟩
  · rw [← h2 i]
    unfold g_Mo_file
    rw [fi_fi]
  · rw [← h3]
    unfold g_Mo_line
    rw [fi_fi]
theorem JJ_1 {σ τ : am_S} {v : Int32} (h : JJ σ τ) : JJ σ (am_fi τ 0 1 v) := by
  obtain ⟨⟨len, b1, b2, b3, b4, b5, b6, b7⟩, ⟨k, k1, k2, k3, k4⟩, hr⟩ := h
  have f : FR [(0, 1)] [] τ (am_fi τ 0 1 v) := fr_fi fr_rf (by decide)
  refine ⟨⟨len, b1, b2, ?_, b4, b5, b6, ?_⟩, ⟨k, k1, k2, ?_, fun j hj => ?_⟩, ?_⟩
  · rw [fr_i f (by decide)]; exact b3
  · rw [fr_i f (by decide)]; exact b7
  · rw [fr_i f (by decide)]; exact k3
  · obtain ⟨n, ff, l, q1, q2⟩ := k4 j hj
    exact ⟨n, ff, l, q1, MF_1 q2⟩
  · rcases hr with ⟨r1, r2⟩ | ⟨r1, r2, r3, N, U, fs, A, Z, bnd, wb, r4⟩
    · exact Or.inl ⟨r1, by rw [fr_i f (by decide)]; exact r2⟩
    · exact Or.inr ⟨r1, by rw [fr_i f (by decide)]; exact r2, by rw [fr_i f (by decide)]; exact r3, N, U, fs, A, Z, bnd, wb, OPN_fr r4 (fr_rf (W := []) (A := [])) f (by decide) (by decide) (by decide) (by decide)⟩
theorem FRK_0 {σ τ : am_S} (h1 : σ.1.1 58 11 = 0) (h2 : τ.1.1 0 56 = 0) : ∃ k, FRK σ τ k := ⟨0, by omega, h1, h2, fun j hj => by omega⟩
theorem JJ_0 : JJ z_c z_m := ⟨⟨0, by omega, rfl, rfl, rfl, fun i => by show -128 ≤ (0 : Int32).toInt ∧ (0 : Int32).toInt ≤ 127; decide, rfl, rfl⟩, FRK_0 rfl rfl, Or.inl ⟨rfl, rfl⟩⟩
/-! the calls -/
theorem c_fault {σ τ : am_S} (h : JJ σ τ) : pu_b (g_F_fault σ) (g_Mo_fault τ) JJ := by
  refine ⟨σ.1.1 0 12, σ, am_fi τ 0 1 0, rfl, ?_, JJ_1 h⟩
  obtain ⟨⟨len, b1, b2, b3, b4, b5, b6, b7⟩, _⟩ := h
  rw [b7]
  rfl
theorem c_count {σ τ : am_S} {a : Int32} (h : JJ σ τ) : pu_b (g_F_count a σ) (g_Mo_count a τ) JJ := by
  have hJ := JJ_1 (v := 0) h
  have P : ∀ v w : Int32, v = w → pu_b (some (v, σ)) (some (w, am_fi τ 0 1 0)) JJ := fun v w e => ⟨v, σ, am_fi τ 0 1 0, rfl, by rw [e], hJ⟩
  unfold g_F_count g_Mo_count
  rcases h.2.2 with ⟨r1, r2⟩ | ⟨r1, r2, r3, N, U, fs, A, Z, bnd, wb, r4⟩
  · rw [r1, r2, if_pos rfl, if_pos rfl]
    exact P _ _ rfl
  · rw [r1, r2, if_neg i10, if_neg i10]
    obtain ⟨c, hc, h6, h54, _⟩ := OPN_sy r4
    by_cases c0 : a = 0
    · rw [if_pos c0, if_pos c0]; exact P _ _ r3
    · rw [if_neg c0, if_neg c0]
      by_cases c1 : a = 1
      · rw [if_pos c1, if_pos c1]; exact P _ _ ((EV_u (OPN_ev r4)).trans (EV_v (OPN_ev r4)).symm)
      · rw [if_neg c1, if_neg c1]
        by_cases c2 : a = 2
        · rw [if_pos c2, if_pos c2]; exact P _ _ ((EV_n (OPN_ev r4)).trans (EV_m (OPN_ev r4)).symm)
        · rw [if_neg c2, if_neg c2]
          by_cases c3 : a = 3
          · rw [if_pos c3, if_pos c3]; exact P _ _ ((OPN_rn r4).2.1.trans (OPN_rn r4).2.2.1.symm)
          · rw [if_neg c3, if_neg c3]
            by_cases c4 : a = 4
            · rw [if_pos c4, if_pos c4]; exact P _ _ ((OPN_rw r4).2.1.trans (OPN_rw r4).2.2.1.symm)
            · rw [if_neg c4, if_neg c4]
              by_cases c5 : a = 5
              · rw [if_pos c5, if_pos c5]; exact P _ _ (h6.trans h54.symm)
              · rw [if_neg c5, if_neg c5]; exact P _ _ rfl
/-- a number of a frame, or none -/
theorem frn {σ τ : am_S} {k : Nat} (h : FRK σ τ k) (a : Int32) : (g_Fr_has a σ = some (0, σ) ∧ g_Mo_isFrame a (am_fi τ 0 1 0) = some (0, am_fi τ 0 1 0)) ∨ ∃ j, a = nI j ∧ j < k ∧ g_Fr_has a σ = some (1, σ) ∧ g_Mo_isFrame a (am_fi τ 0 1 0) = some (1, am_fi τ 0 1 0) := by
  obtain ⟨h1, h2, h3, h4⟩ := h
  have h3' : (am_fi τ 0 1 0).1.1 0 56 = nI k := by rw [fi_no (by decide)]; exact h3
  unfold g_Fr_has g_Fr_has_16 g_Fr_has_17 g_Mo_isFrame g_Mo_isFrame_16 g_Mo_isFrame_17
  rw [h2, h3']
  by_cases c : a < 0
  · rw [if_pos c, if_pos c]
    exact Or.inl ⟨rfl, rfl⟩
  · rw [if_neg c, if_neg c]
    obtain ⟨j, hj, rfl⟩ := nI_of c
    by_cases cj : j < k
    · rw [if_pos (nI_lt cj (by omega)), if_pos (nI_lt cj (by omega))]
      exact Or.inr ⟨j, rfl, cj, rfl, rfl⟩
    · rw [if_neg (nI_nlt (by omega) (by omega)), if_neg (nI_nlt (by omega) (by omega))]
      exact Or.inl ⟨rfl, rfl⟩
theorem c_name {σ τ : am_S} {a b : Int32} (h : JJ σ τ) : pu_b (g_F_name a b σ) (g_Mo_name a b τ) JJ := by
  have hJ := JJ_1 (v := 0) h
  obtain ⟨⟨len, b1, b2, b3, b4, b5, b6, b7⟩, ⟨k, hk⟩, _⟩ := h
  unfold g_F_name g_F_name_38 g_Mo_name g_Mo_name_27
  rcases frn hk a with ⟨e1, e2⟩ | ⟨j, rfl, hj, e1, e2⟩
  · rw [e1, e2, bd_t, bd_t, if_pos rfl, if_pos rfl]
    exact ⟨-1, _, _, rfl, rfl, hJ⟩
  · obtain ⟨n, f, l, ⟨q1, q2, q3, q4, q5⟩, m1, m2, m3⟩ := hk.2.2.2 j hj
    have := hk.1
    obtain ⟨v, v1, v2⟩ := chr_2 (i := b) (σ := σ) (τ := am_fi τ 0 1 0) q2 rfl b4.symm
    rw [e1, e2, bd_t, bd_t, if_neg i10, if_neg i10, inb_nI (by omega) (by decide), gd_t, gd_t, nI_clamp (by omega), q1, v1, bd_t, m1, bd_t, v2, bd_t]
    exact ⟨v, _, _, rfl, rfl, hJ⟩
theorem c_file {σ τ : am_S} {a b : Int32} (h : JJ σ τ) : pu_b (g_F_file a b σ) (g_Mo_file a b τ) JJ := by
  have hJ := JJ_1 (v := 0) h
  obtain ⟨⟨len, b1, b2, b3, b4, b5, b6, b7⟩, ⟨k, hk⟩, _⟩ := h
  unfold g_F_file g_F_file_38
  rcases frn hk a with ⟨e1, e2⟩ | ⟨j, rfl, hj, e1, e2⟩
  · unfold g_Mo_file g_Mo_file_20
    rw [e1, e2, bd_t, bd_t, if_pos rfl, if_pos rfl]
    exact ⟨-1, _, _, rfl, rfl, hJ⟩
  · obtain ⟨n, f, l, ⟨q1, q2, q3, q4, q5⟩, m1, m2, m3⟩ := hk.2.2.2 j hj
    have := hk.1
    obtain ⟨v, v1, v2⟩ := chr_2 (i := b) (σ := σ) (τ := am_fi τ 0 1 0) q4 rfl b4.symm
    rw [e1, bd_t, if_neg i10, inb_nI (by omega) (by decide), gd_t, gd_t, nI_clamp (by omega), q3, v1, bd_t, m2 b, v2, bd_t]
    exact ⟨v, _, _, rfl, rfl, hJ⟩
theorem c_line {σ τ : am_S} {a : Int32} (h : JJ σ τ) : pu_b (g_F_line a σ) (g_Mo_line a τ) JJ := by
  have hJ := JJ_1 (v := 0) h
  obtain ⟨_, ⟨k, hk⟩, _⟩ := h
  unfold g_F_line g_F_line_24
  rcases frn hk a with ⟨e1, e2⟩ | ⟨j, rfl, hj, e1, e2⟩
  · unfold g_Mo_line
    rw [e1, e2, bd_t, bd_t, if_pos rfl, if_pos rfl]
    exact ⟨-1, _, _, rfl, rfl, hJ⟩
  · obtain ⟨n, f, l, ⟨q1, q2, q3, q4, q5⟩, m1, m2, m3⟩ := hk.2.2.2 j hj
    have := hk.1
    rw [e1, bd_t, if_neg i10, inb_nI (by omega) (by decide), gd_t, nI_clamp (by omega), q5, m3]
    exact ⟨l, _, _, rfl, rfl, hJ⟩
theorem c_find {σ τ : am_S} {x : Int64} (h : JJ σ τ) : pu_t (g_F_find x σ) (g_Mo_find x τ) JJ := by
  unfold g_F_find g_Mo_find
  rcases h.2.2 with ⟨r1, r2⟩ | ⟨r1, r2, r3, N, U, fs, A, Z, bnd, wb, r4⟩
  · unfold g_Mo_find_13
    rw [r1, r2, if_pos rfl, if_pos rfl, if_pos rfl]
    exact ⟨none, 0, _, _, rfl, rfl, Or.inr ⟨rfl, by rw [fi_at]⟩, JJ_1 h⟩
  · rw [r1, r2, if_neg i10, if_neg i10]
    obtain ⟨a, s, b, t, e1, e2, rfl, f1, f2, h01, hk⟩ := fnd_2 (x := x) r4 (by rw [r2]; decide)
    rw [e1, bd_t, e2]
    obtain ⟨⟨len, b1, b2, b3, b4, b5, b6, b7⟩, _, _⟩ := h
    refine ⟨some a, a, s, t, rfl, rfl, Or.inl ⟨rfl, h01⟩, ⟨len, b1, ?_, ?_, ?_, ?_, ?_, ?_⟩, hk, Or.inr ⟨?_, ?_, ?_, N, U, fs, A, Z, bnd, wb, OPN_fr r4 f1 f2 (by decide) (by decide) (by decide) (by decide)⟩⟩
    · rw [fr_i f1 (by decide)]; exact b2
    · rw [fr_i f2 (by decide)]; exact b3
    · rw [fr_b f1 (by decide), fr_b f2 (by decide)]; exact b4
    · rw [fr_b f1 (by decide)]; exact b5
    · unfold SPE at *
      rw [fr_c f2 (by decide)]; exact b6
    · rw [fr_i f1 (by decide), fr_i f2 (by decide)]; exact b7
    · rw [fr_i f1 (by decide)]; exact r1
    · rw [fr_i f2 (by decide)]; exact r2
    · rw [fr_i f1 (by decide), fr_i f2 (by decide)]; exact r3
