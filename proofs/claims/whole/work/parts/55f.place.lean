/-! a place, and a text, in a section -/
theorem sub_toInt {d m : Nat} (hd : d ≤ 3000) (hm : m ≤ 8) : ((nI d - nI m).toInt64).toInt = (d : Int) - (m : Int) := by
  rw [Int32.toInt_toInt64, Int32.toInt_sub, nI_toInt (by omega), nI_toInt (by omega)]
  simp only [Int.bmod]
  omega
theorem pi_ok {s a d m n : Nat} {σ : am_S} (hs : s < 10) (h3 : σ.2.1 3 s = nI a) (h4 : σ.2.1 4 s = nI d) (hd : d ≤ 3000) (hm : m ≤ 8) (hn : n + m ≤ d) : g_Mo_placeIn (nI s) (lN n) (nI m) σ = some (nI (a + n), σ) := by
  obtain ⟨a1, -⟩ := in_not (n := n) (d := d) (by omega) (by omega)
  unfold g_Mo_placeIn g_Mo_placeIn_34
  rw [if_neg (fun z => a1 ((cmp_lt _ _).mp z)), inb_nI hs (by decide), gd_t, nI_clamp (by omega), h4, if_neg (fun z => by
    have := (cmp_gt _ _).mp z
    rw [Int64.lt_iff_toInt_lt, sub_toInt hd hm, lN_toInt (by omega)] at this
    omega), gd_t, h3, lN_i, nI_add]
theorem pi_no {s d m : Nat} {x : Int64} {σ : am_S} (hs : s < 10) (h4 : σ.2.1 4 s = nI d) (hd : d ≤ 3000) (hm : m ≤ 8) (hx : ∀ n, x = lN n → n ≤ 3000 → d < n + m) (hx3 : x < 0 ∨ lN 3000 < x ∨ ∃ n, n ≤ 3000 ∧ x = lN n) : g_Mo_placeIn (nI s) x (nI m) σ = some (-1, σ) := by
  unfold g_Mo_placeIn g_Mo_placeIn_33 g_Mo_placeIn_34
  by_cases c : lg_cmp x 0 < 0
  · rw [if_pos c]
  · rw [if_neg c, inb_nI hs (by decide), gd_t, nI_clamp (by omega), h4, if_pos ?_]
    refine (cmp_gt _ _).mpr ?_
    rw [Int64.lt_iff_toInt_lt, sub_toInt hd hm]
    rcases hx3 with h | h | ⟨n, h1, h2⟩
    · exact absurd ((cmp_lt _ _).mpr h) c
    · rw [Int64.lt_iff_toInt_lt, lN_toInt (by omega)] at h
      omega
    · have := hx n h2 h1
      rw [h2, lN_toInt (by omega)]
      omega
theorem x3000 (x : Int64) : x < 0 ∨ lN 3000 < x ∨ ∃ n, n ≤ 3000 ∧ x = lN n := by
  by_cases h : x < 0 ∨ lN 3000 < x
  · rcases h with h | h
    · exact Or.inl h
    · exact Or.inr (Or.inl h)
  · obtain ⟨n, h1, h2⟩ := in_pos (Nat.le_refl 3000) h
    exact Or.inr (Or.inr ⟨n, h1, h2⟩)
