/-! passing over, and a place in a section -/
theorem cmp_lt (x y : Int64) : (lg_cmp x y < 0) ↔ x < y := by
  unfold lg_cmp
  by_cases h1 : x > y
  · rw [if_pos h1]
    refine iff_of_false (by decide) (fun h => ?_)
    rw [Int64.lt_iff_toInt_lt] at h
    have h1 : y < x := h1
    rw [Int64.lt_iff_toInt_lt] at h1
    omega
  · rw [if_neg h1]
    by_cases h2 : x = y
    · rw [if_pos h2, h2]
      refine iff_of_false (by decide) (fun h => ?_)
      rw [Int64.lt_iff_toInt_lt] at h
      omega
    · rw [if_neg h2]
      refine iff_of_true (by decide) ?_
      have h1 : ¬ y < x := h1
      rw [Int64.lt_iff_toInt_lt] at h1 ⊢
      have h3 : ¬ x.toInt = y.toInt := fun z => h2 (Int64.toInt_inj.mp z)
      omega
theorem cmp_gt (x y : Int64) : (0 < lg_cmp x y) ↔ y < x := by
  unfold lg_cmp
  by_cases h1 : x > y
  · rw [if_pos h1]
    exact iff_of_true (by decide) h1
  · rw [if_neg h1]
    have h1 : ¬ y < x := h1
    by_cases h2 : x = y
    · rw [if_pos h2]
      exact iff_of_false (by decide) h1
    · rw [if_neg h2]
      exact iff_of_false (by decide) h1
theorem cmp_eq (x y : Int64) : (lg_cmp x y = 0) ↔ x = y := by
  unfold lg_cmp
  by_cases h1 : x > y
  · rw [if_pos h1]
    refine iff_of_false (by decide) (fun h => ?_)
    have h1 : y < x := h1
    rw [h, Int64.lt_iff_toInt_lt] at h1
    omega
  · rw [if_neg h1]
    by_cases h2 : x = y
    · rw [if_pos h2]
      exact iff_of_true rfl h2
    · rw [if_neg h2]
      exact iff_of_false (by decide) h2
theorem in_pos {x : Int64} {d : Nat} (hd : d ≤ 3000) (h : ¬ (x < 0 ∨ lN d < x)) : ∃ n, n ≤ d ∧ x = lN n := by
  have h1 : ¬ x < 0 := fun z => h (Or.inl z)
  have h2 : ¬ lN d < x := fun z => h (Or.inr z)
  rw [Int64.lt_iff_toInt_lt] at h1 h2
  rw [lN_toInt (by omega)] at h2
  have e0 : (0 : Int64).toInt = 0 := by decide
  rw [e0] at h1
  refine ⟨x.toInt.toNat, by omega, Int64.toInt_inj.mp ?_⟩
  rw [lN_toInt (by omega)]
  omega
theorem in_not {n d : Nat} (hd : d ≤ 3000) (h : n ≤ d) : ¬ (lN n < 0) ∧ ¬ (lN d < lN n) := by
  refine ⟨fun z => ?_, fun z => ?_⟩
  · rw [Int64.lt_iff_toInt_lt, lN_toInt (by omega)] at z
    have e0 : (0 : Int64).toInt = 0 := by decide
    rw [e0] at z
    omega
  · rw [lN_lt (by omega) (by omega)] at z
    omega
theorem sk_ok {k p q n : Nat} {σ : am_S} (h : CU σ k p q false) (hn : p + n ≤ q) : g_Cu_skip k (lN n) σ = some ((), am_fi σ k 1 (nI (p + n))) := by
  obtain ⟨h1, h2, h3, hpq, hq⟩ := h
  obtain ⟨a1, a2⟩ := in_not (n := n) (d := q - p) (by omega) (by omega)
  unfold g_Cu_skip g_Cu_skip_47
  rw [if_pos (by rw [h3]; rfl), if_neg (fun z => a1 ((cmp_lt _ _).mp z)), h1, h2, pk_sub hpq, nI_l (by omega), if_neg (fun z => a2 ((cmp_gt _ _).mp z)), lN_i, nI_add]
theorem sk_bad {k p q : Nat} {b : Bool} {x : Int64} {σ : am_S} (h : CU σ k p q b) (hb : b = true ∨ x < 0 ∨ lN (q - p) < x) : g_Cu_skip k x σ = some ((), am_fi σ k 3 1) := by
  obtain ⟨h1, h2, h3, hpq, hq⟩ := h
  unfold g_Cu_skip g_Cu_skip_28 g_Cu_skip_47
  by_cases c : σ.1.1 k 3 = 0
  · rw [if_pos c]
    by_cases c1 : lg_cmp x 0 < 0
    · rw [if_pos c1]
    · rw [if_neg c1, h1, h2, pk_sub hpq, nI_l (by omega)]
      rcases hb with hb | hb | hb
      · rw [h3, hb] at c
        exact absurd c (by decide)
      · exact absurd ((cmp_lt _ _).mpr hb) c1
      · rw [if_pos ((cmp_gt _ _).mpr hb)]
  · rw [if_neg c]
theorem pa_ok {p q n : Nat} {σ : am_S} (h : RU σ p q false) (hn : p + n ≤ q) : g_Mo_pass (lN n) σ = some ((), am_fi σ 0 6 (nI (p + n))) := by
  obtain ⟨h1, h2, h3, hpq, hq⟩ := h
  obtain ⟨a1, a2⟩ := in_not (n := n) (d := q - p) (by omega) (by omega)
  have h8 : σ.1.1 0 8 = 0 := by rw [h3]; rfl
  unfold g_Mo_pass g_Mo_pass_34 g_Mo_pass_59
  rw [if_pos h8, if_neg (fun z => a1 ((cmp_lt _ _).mp z)), h1, h2, pk_sub hpq, nI_l (by omega), if_neg (fun z => a2 ((cmp_gt _ _).mp z)), show z01 0 = true from rfl, gd_t, if_pos rfl, lN_i, nI_add, fi_same h8]
theorem pa_bad {p q : Nat} {b : Bool} {x : Int64} {σ : am_S} (h : RU σ p q b) (hb : b = true ∨ x < 0 ∨ lN (q - p) < x) : g_Mo_pass x σ = some ((), am_fi σ 0 8 1) := by
  obtain ⟨h1, h2, h3, hpq, hq⟩ := h
  have e : g_Mo_pass_29 x σ = some ((), am_fi σ 0 8 1) := by
    unfold g_Mo_pass_29 g_Mo_pass_34 g_Mo_pass_59
    rw [show z01 1 = true from rfl, gd_t, if_neg (by decide), fi_same (σ := am_fi σ 0 8 1) (by rw [fi_no (by omega)])]
  unfold g_Mo_pass
  by_cases c : σ.1.1 0 8 = 0
  · rw [if_pos c]
    by_cases c1 : lg_cmp x 0 < 0
    · rw [if_pos c1, e]
    · rw [if_neg c1, h1, h2, pk_sub hpq, nI_l (by omega)]
      rcases hb with hb | hb | hb
      · rw [h3, hb] at c
        exact absurd c (by decide)
      · exact absurd ((cmp_lt _ _).mpr hb) c1
      · rw [if_pos ((cmp_gt _ _).mpr hb), e]
  · rw [if_neg c, e]
