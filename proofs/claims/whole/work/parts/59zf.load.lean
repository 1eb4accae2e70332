/-! load and clear -/
theorem bC_s (x : Int64) (i : Nat) : -128 ≤ (bC x i).toInt ∧ (bC x i).toInt ≤ 127 := by
  unfold bC
  rw [pk_vb]
  generalize ((x.toUInt64 >>> ((8 * nI i).toInt64.toUInt64 &&& Int64.toUInt64 63)).toInt64).toInt32.toInt8 = y
  rw [Int8.toInt_toInt32]
  have h1 := y.le_toInt
  have h2 := y.toInt_lt
  omega
theorem ldC_2 {σ : am_S} {x : Int64} {len : Nat} (h : BS (σ.2.1 1)) : ∀ m, BS ((ldC σ x len m).2.1 1)
  | 0 => h
  | m + 1 => by
    have ih := ldC_2 (x := x) (len := len) h m
    intro i
    have e1 : (ldC σ x len (m + 1)).2.1 1 i = (am_ai (ldC σ x len m) 1 (len + m) (bC x m)).2.1 1 i := rfl
    rw [e1]
    by_cases c : i = len + m
    · subst c
      rw [ai_at]
      exact bC_s x m
    · rw [ai_no (Or.inr c)]
      exact ih i
theorem ldM_2 {τ : am_S} {x : Int64} {len : Nat} : ∀ m, FR [(0, 3)] [2] τ (ldM τ x len m) ∧ (ldM τ x len m).2.2 = τ.2.2
  | 0 => ⟨fr_rf, rfl⟩
  | m + 1 => by
    obtain ⟨h1, h2⟩ := ldM_2 (τ := τ) (x := x) (len := len) m
    exact ⟨fr_fi (fr_ai h1 (by decide)) (by decide), h2⟩
theorem c_load {σ τ : am_S} {n : Int32} {x : Int64} (h : JJ σ τ) : pu_b (g_F_load n x σ) (g_Mo_load n x τ) JJ := by
  have hJ := JJ_1 (v := 0) h
  obtain ⟨⟨len, b1, b2, b3, b4, b5, b6, b7⟩, _, _⟩ := h
  by_cases c1 : n < 1
  · rw [gld_no (Or.inl c1), mld_no (Or.inl c1)]
    exact ⟨0, _, _, rfl, rfl, hJ⟩
  by_cases c2 : 8 < n
  · rw [gld_no (Or.inr (Or.inl c2)), mld_no (Or.inr (Or.inl c2))]
    exact ⟨0, _, _, rfl, rfl, hJ⟩
  have c0 : ¬ n < 0 := fun z => c1 (by
    rw [Int32.lt_iff_toInt_lt] at z ⊢
    have e0 : (0 : Int32).toInt = 0 := rfl
    have e1 : (1 : Int32).toInt = 1 := rfl
    omega)
  obtain ⟨m, hm31, rfl⟩ := nI_of c0
  have m1 : 1 ≤ m := by
    by_cases z : 1 ≤ m
    · exact z
    · exact absurd (show nI m < 1 from nI_lt (b := 1) (by omega) (by omega)) c1
  have m8 : m ≤ 8 := by
    by_cases z : m ≤ 8
    · exact z
    · exact absurd (show (8 : Int32) < nI m from nI_lt (a := 8) (by omega) (by omega)) c2
  by_cases c3 : len + m ≤ 3000
  · rw [gld_ok b2 m1 m8 c3, mld_ok b3 m1 m8 c3]
    have f0 : FR [(0, 1), (0, 3)] [2] τ (am_fi τ 0 1 0) := fr_fi fr_rf (by decide)
    obtain ⟨g1, g2⟩ := ldM_2 (τ := am_fi τ 0 1 0) (x := x) (len := len) m
    have g3 := fr_tr f0 (fr_up g1 (W' := [(0, 1), (0, 3)]) (A' := [2]) (by decide) (by decide))
    refine ⟨1, _, _, rfl, rfl, ⟨len + m, c3, ?_, ?_, ?_, ?_, ?_, ?_⟩, FRK_0 ?_ ?_, Or.inl ⟨?_, ?_⟩⟩
    · unfold fgC
      rw [fi_no (by decide), fi_no (by decide), fi_at]
    · unfold fgM
      rw [fi_no (by decide), fi_no (by decide), fi_no (by decide)]
      exact ldM_s (by rw [fi_no (by decide)]; exact b3) m
    · show (ldC σ x len m).2.1 1 = (ldM (am_fi τ 0 1 0) x len m).2.1 2
      exact ld_by (σm := am_fi τ 0 1 0) b4 m m8
    · exact ldC_2 b5 m
    · unfold SPE
      show (ldM (am_fi τ 0 1 0) x len m).2.2 1 = _
      rw [g2]
      exact b6
    · unfold fgC fgM
      rw [fi_no (by decide), fi_no (by decide), fi_no (by decide), fi_no (by decide), fi_no (by decide), fi_no (by decide), fr_i g3 (by decide), ldC_1]
      exact b7
    · unfold fgC
      rw [fi_at]
    · unfold fgM
      rw [fi_no (by decide), fi_at]
    · unfold fgC
      rw [fi_no (by decide), fi_at]
    · unfold fgM
      rw [fi_no (by decide), fi_no (by decide), fi_at]
  · have q1 : 3000 - σ.1.1 0 10 < nI m := by
      rw [b2, show (3000 : Int32) = nI 3000 from rfl, nI_subZ (by omega)]
      exact nI_lt (by omega) (by omega)
    have q2 : 3000 < τ.1.1 0 3 + nI m := by
      rw [b3, nI_add]
      exact nI_lt (a := 3000) (by omega) (by omega)
    rw [gld_no (Or.inr (Or.inr q1)), mld_no (Or.inr (Or.inr q2))]
    exact ⟨0, _, _, rfl, rfl, hJ⟩
theorem c_clear {σ τ : am_S} (h : JJ σ τ) : ∃ s t, g_F_clear σ = some ((), s) ∧ g_Mo_clear τ = some ((), t) ∧ JJ s t := by
  obtain ⟨⟨len, b1, b2, b3, b4, b5, b6, b7⟩, _, _⟩ := h
  refine ⟨fgC (am_fi σ 0 10 0), fgM (am_fi (am_fi τ 0 1 0) 0 3 0), rfl, rfl, ⟨0, by omega, ?_, ?_, b4, b5, b6, ?_⟩, FRK_0 ?_ ?_, Or.inl ⟨?_, ?_⟩⟩
  · unfold fgC
    rw [fi_no (by decide), fi_no (by decide), fi_at]; rfl
  · unfold fgM
    rw [fi_no (by decide), fi_no (by decide), fi_no (by decide), fi_at]; rfl
  · unfold fgC fgM
    rw [fi_no (by decide), fi_no (by decide), fi_no (by decide), fi_no (by decide), fi_no (by decide), fi_no (by decide), fi_no (by decide), fi_no (by decide)]
    exact b7
  · unfold fgC
    rw [fi_at]
  · unfold fgM
    rw [fi_no (by decide), fi_at]
  · unfold fgC
    rw [fi_no (by decide), fi_at]
  · unfold fgM
    rw [fi_no (by decide), fi_no (by decide), fi_at]
