set_option maxHeartbeats 4000000 in
theorem f_Mo_open_136 {y0 : Int32} {σ σ' : am_S} {r : Int32} (h : g_Mo_open_136 y0 σ = some (r, σ')) : FR [(0, 1), (0, 13), (0, 21), (0, 22), (0, 23), (0, 33), (0, 37), (0, 38), (0, 4), (0, 47), (0, 48), (0, 49), (0, 5), (0, 50), (0, 51), (0, 52), (0, 53), (0, 54), (0, 55), (0, 56), (0, 6), (0, 7), (0, 8), (0, 9)] [3, 4, 5, 6, 7, 8, 9, 10, 11, 12, 13, 14, 15, 16, 17, 18, 19, 20, 21, 22, 23, 24, 25, 26, 27, 28, 29, 30, 31, 32] σ σ' := by
  unfold g_Mo_open_136 at h
  exact fr_lf fr_rf h
set_option maxHeartbeats 4000000 in
theorem f_Mo_open_118 {y0 : Int32} {σ σ' : am_S} {r : Int32} (h : g_Mo_open_118 y0 σ = some (r, σ')) : FR [(0, 1), (0, 13), (0, 21), (0, 22), (0, 23), (0, 33), (0, 37), (0, 38), (0, 4), (0, 47), (0, 48), (0, 49), (0, 5), (0, 50), (0, 51), (0, 52), (0, 53), (0, 54), (0, 55), (0, 56), (0, 6), (0, 7), (0, 8), (0, 9)] [3, 4, 5, 6, 7, 8, 9, 10, 11, 12, 13, 14, 15, 16, 17, 18, 19, 20, 21, 22, 23, 24, 25, 26, 27, 28, 29, 30, 31, 32] σ σ' := by
  unfold g_Mo_open_118 at h
  by_cases c4 : (σ.1.1 0 5) = 0
  · rw [if_pos c4] at h
    exact fr_tr (fr_fi fr_rf (List.mem_of_getElem? (i := 0) rfl)) (f_Mo_open_136 h)
  · rw [if_neg c4] at h
    exact fr_tr (fr_fi fr_rf (List.mem_of_getElem? (i := 0) rfl)) (f_Mo_open_136 h)
set_option maxHeartbeats 4000000 in
theorem f_Mo_open_102 {y0 : Int32} {σ σ' : am_S} {r : Int32} (h : g_Mo_open_102 y0 σ = some (r, σ')) : FR [(0, 1), (0, 13), (0, 21), (0, 22), (0, 23), (0, 33), (0, 37), (0, 38), (0, 4), (0, 47), (0, 48), (0, 49), (0, 5), (0, 50), (0, 51), (0, 52), (0, 53), (0, 54), (0, 55), (0, 56), (0, 6), (0, 7), (0, 8), (0, 9)] [3, 4, 5, 6, 7, 8, 9, 10, 11, 12, 13, 14, 15, 16, 17, 18, 19, 20, 21, 22, 23, 24, 25, 26, 27, 28, 29, 30, 31, 32] σ σ' := by
  unfold g_Mo_open_102 at h
  obtain ⟨_, h⟩ := gd_some h
  by_cases c5 : y0 = 0
  · rw [if_pos c5] at h
    exact fr_tr (fr_fi fr_rf (List.mem_of_getElem? (i := 12) rfl)) (f_Mo_open_118 h)
  · rw [if_neg c5] at h
    exact fr_tr (fr_fi fr_rf (List.mem_of_getElem? (i := 12) rfl)) (f_Mo_open_118 h)
set_option maxHeartbeats 4000000 in
theorem f_Mo_open_86 {y0 : Int32} {σ σ' : am_S} {r : Int32} (h : g_Mo_open_86 y0 σ = some (r, σ')) : FR [(0, 1), (0, 13), (0, 21), (0, 22), (0, 23), (0, 33), (0, 37), (0, 38), (0, 4), (0, 47), (0, 48), (0, 49), (0, 5), (0, 50), (0, 51), (0, 52), (0, 53), (0, 54), (0, 55), (0, 56), (0, 6), (0, 7), (0, 8), (0, 9)] [3, 4, 5, 6, 7, 8, 9, 10, 11, 12, 13, 14, 15, 16, 17, 18, 19, 20, 21, 22, 23, 24, 25, 26, 27, 28, 29, 30, 31, 32] σ σ' := by
  unfold g_Mo_open_86 at h
  by_cases c5 : y0 = 0
  · rw [if_pos c5] at h
    exact fr_tr (fr_fi fr_rf (List.mem_of_getElem? (i := 8) rfl)) (f_Mo_open_102 h)
  · rw [if_neg c5] at h
    exact fr_tr (fr_fi fr_rf (List.mem_of_getElem? (i := 8) rfl)) (f_Mo_open_102 h)
set_option maxHeartbeats 4000000 in
theorem f_Mo_open_0 {σ σ' : am_S} {r : Int32} (h : g_Mo_open σ = some (r, σ')) : FR [(0, 1), (0, 13), (0, 21), (0, 22), (0, 23), (0, 33), (0, 37), (0, 38), (0, 4), (0, 47), (0, 48), (0, 49), (0, 5), (0, 50), (0, 51), (0, 52), (0, 53), (0, 54), (0, 55), (0, 56), (0, 6), (0, 7), (0, 8), (0, 9)] [3, 4, 5, 6, 7, 8, 9, 10, 11, 12, 13, 14, 15, 16, 17, 18, 19, 20, 21, 22, 23, 24, 25, 26, 27, 28, 29, 30, 31, 32] σ σ' := by
  unfold g_Mo_open at h
  obtain ⟨v2, σ2, e2, h⟩ := am_bd_some h
  have f2 : FR [(0, 1), (0, 13), (0, 21), (0, 22), (0, 23), (0, 33), (0, 37), (0, 38), (0, 4), (0, 47), (0, 48), (0, 49), (0, 5), (0, 50), (0, 51), (0, 52), (0, 53), (0, 54), (0, 55), (0, 56), (0, 6), (0, 7), (0, 8), (0, 9)] [3, 4, 5, 6, 7, 8, 9, 10, 11, 12, 13, 14, 15, 16, 17, 18, 19, 20, 21, 22, 23, 24, 25, 26, 27, 28, 29, 30, 31, 32] σ σ2 := fr_up (f_Mo_forget e2) (by decide) (by decide)
  obtain ⟨v20, σ20, e20, h⟩ := am_bd_some h
  have f20 : FR [(0, 1), (0, 13), (0, 21), (0, 22), (0, 23), (0, 33), (0, 37), (0, 38), (0, 4), (0, 47), (0, 48), (0, 49), (0, 5), (0, 50), (0, 51), (0, 52), (0, 53), (0, 54), (0, 55), (0, 56), (0, 6), (0, 7), (0, 8), (0, 9)] [3, 4, 5, 6, 7, 8, 9, 10, 11, 12, 13, 14, 15, 16, 17, 18, 19, 20, 21, 22, 23, 24, 25, 26, 27, 28, 29, 30, 31, 32] σ σ20 := fr_tr (fr_fi (fr_fi (fr_fi (fr_fi (fr_fi f2 (List.mem_of_getElem? (i := 23) rfl)) (List.mem_of_getElem? (i := 2) rfl)) (List.mem_of_getElem? (i := 3) rfl)) (List.mem_of_getElem? (i := 5) rfl)) (List.mem_of_getElem? (i := 7) rfl)) (fr_up (f_Mo_readSections e20) (by decide) (by decide))
  by_cases c21 : v20 = 0
  · rw [if_pos c21] at h
    exact fr_tr f20 (f_Mo_open_86 h)
  · rw [if_neg c21] at h
    obtain ⟨v23, σ23, e23, h⟩ := am_bd_some h
    have f23 : FR [(0, 1), (0, 13), (0, 21), (0, 22), (0, 23), (0, 33), (0, 37), (0, 38), (0, 4), (0, 47), (0, 48), (0, 49), (0, 5), (0, 50), (0, 51), (0, 52), (0, 53), (0, 54), (0, 55), (0, 56), (0, 6), (0, 7), (0, 8), (0, 9)] [3, 4, 5, 6, 7, 8, 9, 10, 11, 12, 13, 14, 15, 16, 17, 18, 19, 20, 21, 22, 23, 24, 25, 26, 27, 28, 29, 30, 31, 32] σ σ23 := fr_tr f20 (fr_up (f_Mo_readUnits e23) (by decide) (by decide))
    by_cases c24 : v23 = 0
    · rw [if_pos c24] at h
      exact fr_tr f23 (f_Mo_open_86 h)
    · rw [if_neg c24] at h
      obtain ⟨v26, σ26, e26, h⟩ := am_bd_some h
      have f26 : FR [(0, 1), (0, 13), (0, 21), (0, 22), (0, 23), (0, 33), (0, 37), (0, 38), (0, 4), (0, 47), (0, 48), (0, 49), (0, 5), (0, 50), (0, 51), (0, 52), (0, 53), (0, 54), (0, 55), (0, 56), (0, 6), (0, 7), (0, 8), (0, 9)] [3, 4, 5, 6, 7, 8, 9, 10, 11, 12, 13, 14, 15, 16, 17, 18, 19, 20, 21, 22, 23, 24, 25, 26, 27, 28, 29, 30, 31, 32] σ σ26 := fr_tr f23 (fr_up (f_Mo_readValues e26) (by decide) (by decide))
      by_cases c27 : v26 = 0
      · rw [if_pos c27] at h
        exact fr_tr f26 (f_Mo_open_86 h)
      · rw [if_neg c27] at h
        obtain ⟨v29, σ29, e29, h⟩ := am_bd_some h
        have f29 : FR [(0, 1), (0, 13), (0, 21), (0, 22), (0, 23), (0, 33), (0, 37), (0, 38), (0, 4), (0, 47), (0, 48), (0, 49), (0, 5), (0, 50), (0, 51), (0, 52), (0, 53), (0, 54), (0, 55), (0, 56), (0, 6), (0, 7), (0, 8), (0, 9)] [3, 4, 5, 6, 7, 8, 9, 10, 11, 12, 13, 14, 15, 16, 17, 18, 19, 20, 21, 22, 23, 24, 25, 26, 27, 28, 29, 30, 31, 32] σ σ29 := fr_tr f26 (fr_up (f_Mo_readAllLines e29) (by decide) (by decide))
        by_cases c30 : v29 = 0
        · rw [if_pos c30] at h
          exact fr_tr f29 (f_Mo_open_86 h)
        · rw [if_neg c30] at h
          obtain ⟨v32, σ32, e32, h⟩ := am_bd_some h
          have f32 : FR [(0, 1), (0, 13), (0, 21), (0, 22), (0, 23), (0, 33), (0, 37), (0, 38), (0, 4), (0, 47), (0, 48), (0, 49), (0, 5), (0, 50), (0, 51), (0, 52), (0, 53), (0, 54), (0, 55), (0, 56), (0, 6), (0, 7), (0, 8), (0, 9)] [3, 4, 5, 6, 7, 8, 9, 10, 11, 12, 13, 14, 15, 16, 17, 18, 19, 20, 21, 22, 23, 24, 25, 26, 27, 28, 29, 30, 31, 32] σ σ32 := fr_tr f29 (fr_up (f_Mo_readSymbols e32) (by decide) (by decide))
          by_cases c33 : v32 = 0
          · rw [if_pos c33] at h
            exact fr_tr f32 (f_Mo_open_86 h)
          · rw [if_neg c33] at h
            exact fr_tr f32 (f_Mo_open_86 h)
theorem f_Mo_open {σ σ' : am_S} {r : Int32} (h : g_Mo_open σ = some (r, σ')) : FR [(0, 1), (0, 13), (0, 21), (0, 22), (0, 23), (0, 33), (0, 37), (0, 38), (0, 4), (0, 47), (0, 48), (0, 49), (0, 5), (0, 50), (0, 51), (0, 52), (0, 53), (0, 54), (0, 55), (0, 56), (0, 6), (0, 7), (0, 8), (0, 9)] [3, 4, 5, 6, 7, 8, 9, 10, 11, 12, 13, 14, 15, 16, 17, 18, 19, 20, 21, 22, 23, 24, 25, 26, 27, 28, 29, 30, 31, 32] σ σ' := f_Mo_open_0 h
set_option maxHeartbeats 4000000 in
theorem f_Mo_fault_0 {σ σ' : am_S} {r : Int32} (h : g_Mo_fault σ = some (r, σ')) : FR [(0, 1)] [] σ σ' := by
  unfold g_Mo_fault at h
  exact fr_lf (fr_fi fr_rf (List.mem_of_getElem? (i := 0) rfl)) h
theorem f_Mo_fault {σ σ' : am_S} {r : Int32} (h : g_Mo_fault σ = some (r, σ')) : FR [(0, 1)] [] σ σ' := f_Mo_fault_0 h
set_option maxHeartbeats 4000000 in
theorem f_Mo_count_0 {x1 : Int32} {σ σ' : am_S} {r : Int32} (h : g_Mo_count x1 σ = some (r, σ')) : FR [(0, 1)] [] σ σ' := by
  unfold g_Mo_count at h
  by_cases c6 : (σ.1.1 0 5) = 0
  · rw [if_pos c6] at h
    exact fr_lf (fr_fi fr_rf (List.mem_of_getElem? (i := 0) rfl)) h
  · rw [if_neg c6] at h
    by_cases d8_0 : x1 = 0
    · rw [if_pos d8_0] at h
      exact fr_lf (fr_fi fr_rf (List.mem_of_getElem? (i := 0) rfl)) h
    rw [if_neg d8_0] at h
    by_cases d8_1 : x1 = 1
    · rw [if_pos d8_1] at h
      exact fr_lf (fr_fi fr_rf (List.mem_of_getElem? (i := 0) rfl)) h
    rw [if_neg d8_1] at h
    by_cases d8_2 : x1 = 2
    · rw [if_pos d8_2] at h
      exact fr_lf (fr_fi fr_rf (List.mem_of_getElem? (i := 0) rfl)) h
    rw [if_neg d8_2] at h
    by_cases d8_3 : x1 = 3
    · rw [if_pos d8_3] at h
      exact fr_lf (fr_fi fr_rf (List.mem_of_getElem? (i := 0) rfl)) h
    rw [if_neg d8_3] at h
    by_cases d8_4 : x1 = 4
    · rw [if_pos d8_4] at h
      exact fr_lf (fr_fi fr_rf (List.mem_of_getElem? (i := 0) rfl)) h
    rw [if_neg d8_4] at h
    by_cases d8_5 : x1 = 5
    · rw [if_pos d8_5] at h
      exact fr_lf (fr_fi fr_rf (List.mem_of_getElem? (i := 0) rfl)) h
    rw [if_neg d8_5] at h
    exact fr_lf (fr_fi fr_rf (List.mem_of_getElem? (i := 0) rfl)) h
theorem f_Mo_count {x1 : Int32} {σ σ' : am_S} {r : Int32} (h : g_Mo_count x1 σ = some (r, σ')) : FR [(0, 1)] [] σ σ' := f_Mo_count_0 h
set_option maxHeartbeats 4000000 in
theorem f_Mo_isLess_19 {y0 : Int32} {σ σ' : am_S} {r : Int32} (h : g_Mo_isLess_19 y0 σ = some (r, σ')) : FR [] [] σ σ' := by
  unfold g_Mo_isLess_19 at h
  obtain ⟨_, h⟩ := gd_some h
  exact fr_lf fr_rf h
set_option maxHeartbeats 4000000 in
theorem f_Mo_isLess_0 {x0 : Int64} {x2 : Int64} {σ σ' : am_S} {r : Int32} (h : g_Mo_isLess x0 x2 σ = some (r, σ')) : FR [] [] σ σ' := by
  unfold g_Mo_isLess at h
  by_cases c8 : (lg_cmp (x0 + (-9223372036854775808)) (x2 + (-9223372036854775808))) < 0
  · rw [if_pos c8] at h
    exact f_Mo_isLess_19 h
  · rw [if_neg c8] at h
    exact f_Mo_isLess_19 h
theorem f_Mo_isLess {x0 : Int64} {x2 : Int64} {σ σ' : am_S} {r : Int32} (h : g_Mo_isLess x0 x2 σ = some (r, σ')) : FR [] [] σ σ' := f_Mo_isLess_0 h
set_option maxHeartbeats 4000000 in
theorem f_Mo_isWithin_22 {y0 : Int32} {σ σ' : am_S} {r : Int32} (h : g_Mo_isWithin_22 y0 σ = some (r, σ')) : FR [] [] σ σ' := by
  unfold g_Mo_isWithin_22 at h
  obtain ⟨_, h⟩ := gd_some h
  exact fr_lf fr_rf h
set_option maxHeartbeats 4000000 in
theorem f_Mo_isWithin_21 {σ σ' : am_S} {r : Int32} (h : g_Mo_isWithin_21 σ = some (r, σ')) : FR [] [] σ σ' := by
  unfold g_Mo_isWithin_21 at h
  exact f_Mo_isWithin_22 h
set_option maxHeartbeats 4000000 in
theorem f_Mo_isWithin_0 {x0 : Int64} {x2 : Int64} {x4 : Int64} {σ σ' : am_S} {r : Int32} (h : g_Mo_isWithin x0 x2 x4 σ = some (r, σ')) : FR [] [] σ σ' := by
  unfold g_Mo_isWithin at h
  obtain ⟨v3, σ3, e3, h⟩ := am_bd_some h
  have f3 : FR [] [] σ σ3 := fr_up (f_Mo_isLess e3) (fun _ h9 => (by cases h9)) (fun _ h9 => (by cases h9))
  by_cases c4 : v3 = 0
  · rw [if_pos c4] at h
    obtain ⟨v7, σ7, e7, h⟩ := am_bd_some h
    have f7 : FR [] [] σ σ7 := fr_tr f3 (fr_up (f_Mo_isLess e7) (fun _ h9 => (by cases h9)) (fun _ h9 => (by cases h9)))
    by_cases c8 : v7 = 0
    · rw [if_pos c8] at h
      exact fr_tr f7 (f_Mo_isWithin_21 h)
    · rw [if_neg c8] at h
      exact fr_tr f7 (f_Mo_isWithin_22 h)
  · rw [if_neg c4] at h
    exact fr_tr f3 (f_Mo_isWithin_21 h)
theorem f_Mo_isWithin {x0 : Int64} {x2 : Int64} {x4 : Int64} {σ σ' : am_S} {r : Int32} (h : g_Mo_isWithin x0 x2 x4 σ = some (r, σ')) : FR [] [] σ σ' := f_Mo_isWithin_0 h
set_option maxHeartbeats 4000000 in
theorem f_Mo_holds_52 {x1 : Int32} {x3 : Int32} {y0 : Int32} {σ σ' : am_S} {r : Int32} {go : Int32 → Int32 → Int32 → am_S → Option (Int32 × am_S)} (hgo : ∀ {x1 : Int32} {x2 : Int32} {x3 : Int32} {σ σ' : am_S} {r : Int32}, go x1 x2 x3 σ = some (r, σ') → FR [] [] σ σ') (h : g_Mo_holds_52 go x1 x3 y0 σ = some (r, σ')) : FR [] [] σ σ' := by
  unfold g_Mo_holds_52 at h
  exact hgo h
set_option maxHeartbeats 4000000 in
theorem f_Mo_holds_47 {x1 : Int32} {x3 : Int32} {σ σ' : am_S} {r : Int32} {go : Int32 → Int32 → Int32 → am_S → Option (Int32 × am_S)} (hgo : ∀ {x1 : Int32} {x2 : Int32} {x3 : Int32} {σ σ' : am_S} {r : Int32}, go x1 x2 x3 σ = some (r, σ') → FR [] [] σ σ') (h : g_Mo_holds_47 go x1 x3 σ = some (r, σ')) : FR [] [] σ σ' := by
  unfold g_Mo_holds_47 at h
  exact f_Mo_holds_52 hgo h
set_option maxHeartbeats 4000000 in
theorem f_Mo_holds_9 : ∀ (n : Nat) {x1 : Int32} {x2 : Int32} {x3 : Int32} {σ σ' : am_S} {r : Int32} (h : g_Mo_holds_9 n x1 x2 x3 σ = some (r, σ')), FR [] [] σ σ' := by
  intro n
  induction n with
  | zero =>
    intro x1 x2 x3 σ σ' r h
    cases h
  | succ n ih =>
  intro x1 x2 x3 σ σ' r h
  unfold g_Mo_holds_9 at h
  obtain ⟨_, h⟩ := gd_some h
  by_cases c8 : x3 < (σ.2.1 22 (x1 + 1).toNatClampNeg)
  · rw [if_pos c8] at h
    by_cases c10 : x2 = 0
    · rw [if_pos c10] at h
      obtain ⟨_, h⟩ := gd_some h
      obtain ⟨_, h⟩ := gd_some h
      obtain ⟨v21, σ21, e21, h⟩ := am_bd_some h
      have f21 : FR [] [] σ σ21 := fr_up (f_Mo_isWithin e21) (fun _ h9 => (by cases h9)) (fun _ h9 => (by cases h9))
      by_cases c22 : v21 = 0
      · rw [if_pos c22] at h
        exact fr_tr f21 (f_Mo_holds_52 (fun h => ih h) h)
      · rw [if_neg c22] at h
        exact fr_tr f21 (f_Mo_holds_47 (fun h => ih h) h)
    · rw [if_neg c10] at h
      exact f_Mo_holds_47 (fun h => ih h) h
  · rw [if_neg c8] at h
    obtain ⟨_, h⟩ := gd_some h
    exact fr_lf fr_rf h
set_option maxHeartbeats 4000000 in
theorem f_Mo_holds_0 {x1 : Int32} {σ σ' : am_S} {r : Int32} (h : g_Mo_holds x1 σ = some (r, σ')) : FR [] [] σ σ' := by
  unfold g_Mo_holds at h
  obtain ⟨_, h⟩ := gd_some h
  exact f_Mo_holds_9 4000 h
theorem f_Mo_holds {x1 : Int32} {σ σ' : am_S} {r : Int32} (h : g_Mo_holds x1 σ = some (r, σ')) : FR [] [] σ σ' := f_Mo_holds_0 h
set_option maxHeartbeats 4000000 in
theorem f_Mo_letsPass_40 {y0 : Int32} {σ σ' : am_S} {r : Int32} (h : g_Mo_letsPass_40 y0 σ = some (r, σ')) : FR [] [] σ σ' := by
  unfold g_Mo_letsPass_40 at h
  obtain ⟨_, h⟩ := gd_some h
  exact fr_lf fr_rf h
set_option maxHeartbeats 4000000 in
theorem f_Mo_letsPass_35 {σ σ' : am_S} {r : Int32} (h : g_Mo_letsPass_35 σ = some (r, σ')) : FR [] [] σ σ' := by
  unfold g_Mo_letsPass_35 at h
  exact f_Mo_letsPass_40 h
set_option maxHeartbeats 4000000 in
theorem f_Mo_letsPass_39 {σ σ' : am_S} {r : Int32} (h : g_Mo_letsPass_39 σ = some (r, σ')) : FR [] [] σ σ' := by
  unfold g_Mo_letsPass_39 at h
  exact f_Mo_letsPass_40 h
set_option maxHeartbeats 4000000 in
theorem f_Mo_letsPass_0 {x1 : Int32} {σ σ' : am_S} {r : Int32} (h : g_Mo_letsPass x1 σ = some (r, σ')) : FR [] [] σ σ' := by
  unfold g_Mo_letsPass at h
  obtain ⟨v3, σ3, e3, h⟩ := am_bd_some h
  have f3 : FR [] [] σ σ3 := fr_up (f_Mo_holds e3) (fun _ h9 => (by cases h9)) (fun _ h9 => (by cases h9))
  by_cases c4 : v3 = 0
  · rw [if_pos c4] at h
    obtain ⟨v8, σ8, e8, h⟩ := am_bd_some h
    have f8 : FR [] [] σ σ8 := fr_tr f3 (fr_up (f_Mo_has e8) (fun _ h9 => (by cases h9)) (fun _ h9 => (by cases h9)))
    by_cases c9 : v8 = 0
    · rw [if_pos c9] at h
      obtain ⟨v13, σ13, e13, h⟩ := am_bd_some h
      have f13 : FR [] [] σ σ13 := fr_tr f8 (fr_up (f_Mo_has e13) (fun _ h9 => (by cases h9)) (fun _ h9 => (by cases h9)))
      by_cases c14 : v13 = 0
      · rw [if_pos c14] at h
        exact fr_tr f13 (f_Mo_letsPass_35 h)
      · rw [if_neg c14] at h
        obtain ⟨v18, σ18, e18, h⟩ := am_bd_some h
        have f18 : FR [] [] σ σ18 := fr_tr f13 (fr_up (f_Mo_has e18) (fun _ h9 => (by cases h9)) (fun _ h9 => (by cases h9)))
        by_cases c19 : v18 = 0
        · rw [if_pos c19] at h
          exact fr_tr f18 (f_Mo_letsPass_35 h)
        · rw [if_neg c19] at h
          exact fr_tr f18 (f_Mo_letsPass_39 h)
    · rw [if_neg c9] at h
      exact fr_tr f8 (f_Mo_letsPass_39 h)
  · rw [if_neg c4] at h
    exact fr_tr f3 (f_Mo_letsPass_35 h)
theorem f_Mo_letsPass {x1 : Int32} {σ σ' : am_S} {r : Int32} (h : g_Mo_letsPass x1 σ = some (r, σ')) : FR [] [] σ σ' := f_Mo_letsPass_0 h
set_option maxHeartbeats 4000000 in
theorem f_Mo_isUnder_56 {y0 : Int32} {σ σ' : am_S} {r : Int32} (h : g_Mo_isUnder_56 y0 σ = some (r, σ')) : FR [] [] σ σ' := by
  unfold g_Mo_isUnder_56 at h
  obtain ⟨_, h⟩ := gd_some h
  exact fr_lf fr_rf h
set_option maxHeartbeats 4000000 in
theorem f_Mo_isUnder_46 {x2 : Int32} {x3 : Int32} {σ σ' : am_S} {r : Int32} (h : g_Mo_isUnder_46 x2 x3 σ = some (r, σ')) : FR [] [] σ σ' := by
  unfold g_Mo_isUnder_46 at h
  by_cases c3 : x3 = x2
  · rw [if_pos c3] at h
    exact f_Mo_isUnder_56 h
  · rw [if_neg c3] at h
    exact f_Mo_isUnder_56 h
set_option maxHeartbeats 4000000 in
theorem f_Mo_isUnder_7 : ∀ (n : Nat) {x2 : Int32} {x3 : Int32} {σ σ' : am_S} {r : Int32} (h : g_Mo_isUnder_7 n x2 x3 σ = some (r, σ')), FR [] [] σ σ' := by
  intro n
  induction n with
  | zero =>
    intro x2 x3 σ σ' r h
    cases h
  | succ n ih =>
  intro x2 x3 σ σ' r h
  unfold g_Mo_isUnder_7 at h
  by_cases c3 : x3 = x2
  · rw [if_pos c3] at h
    exact f_Mo_isUnder_46 h
  · rw [if_neg c3] at h
    by_cases c6 : x3 = (-1)
    · rw [if_pos c6] at h
      exact f_Mo_isUnder_46 h
    · rw [if_neg c6] at h
      obtain ⟨_, h⟩ := gd_some h
      by_cases c12 : (σ.2.1 17 x3.toNatClampNeg) = 11
      · rw [if_pos c12] at h
        obtain ⟨v15, σ15, e15, h⟩ := am_bd_some h
        have f15 : FR [] [] σ σ15 := fr_up (f_Mo_letsPass e15) (fun _ h9 => (by cases h9)) (fun _ h9 => (by cases h9))
        by_cases c16 : v15 = 0
        · rw [if_pos c16] at h
          exact fr_tr f15 (f_Mo_isUnder_46 h)
        · rw [if_neg c16] at h
          obtain ⟨_, h⟩ := gd_some h
          exact fr_tr f15 (ih h)
      · rw [if_neg c12] at h
        exact f_Mo_isUnder_46 h
set_option maxHeartbeats 4000000 in
theorem f_Mo_isUnder_0 {x1 : Int32} {x2 : Int32} {σ σ' : am_S} {r : Int32} (h : g_Mo_isUnder x1 x2 σ = some (r, σ')) : FR [] [] σ σ' := by
  unfold g_Mo_isUnder at h
  obtain ⟨_, h⟩ := gd_some h
  exact f_Mo_isUnder_7 4000 h
theorem f_Mo_isUnder {x1 : Int32} {x2 : Int32} {σ σ' : am_S} {r : Int32} (h : g_Mo_isUnder x1 x2 σ = some (r, σ')) : FR [] [] σ σ' := f_Mo_isUnder_0 h
set_option maxHeartbeats 4000000 in
theorem f_Mo_first_42 {x3 : Int32} {σ σ' : am_S} {r : Int32} (h : g_Mo_first_42 x3 σ = some (r, σ')) : FR [] [] σ σ' := by
  unfold g_Mo_first_42 at h
  exact fr_lf fr_rf h
set_option maxHeartbeats 4000000 in
theorem f_Mo_first_44 {x1 : Int32} {x2 : Int32} {x3 : Int32} {σ σ' : am_S} {r : Int32} {go : Int32 → Int32 → Int32 → am_S → Option (Int32 × am_S)} (hgo : ∀ {x1 : Int32} {x2 : Int32} {x3 : Int32} {σ σ' : am_S} {r : Int32}, go x1 x2 x3 σ = some (r, σ') → FR [] [] σ σ') (h : g_Mo_first_44 go x1 x2 x3 σ = some (r, σ')) : FR [] [] σ σ' := by
  unfold g_Mo_first_44 at h
  exact hgo h
set_option maxHeartbeats 4000000 in
theorem f_Mo_first_2 : ∀ (n : Nat) {x1 : Int32} {x2 : Int32} {x3 : Int32} {σ σ' : am_S} {r : Int32} (h : g_Mo_first_2 n x1 x2 x3 σ = some (r, σ')), FR [] [] σ σ' := by
  intro n
  induction n with
  | zero =>
    intro x1 x2 x3 σ σ' r h
    cases h
  | succ n ih =>
  intro x1 x2 x3 σ σ' r h
  unfold g_Mo_first_2 at h
  by_cases c4 : x3 < (σ.1.1 0 22)
  · rw [if_pos c4] at h
    obtain ⟨_, h⟩ := gd_some h
    by_cases c10 : (σ.2.1 17 x3.toNatClampNeg) = x1
    · rw [if_pos c10] at h
      obtain ⟨v13, σ13, e13, h⟩ := am_bd_some h
      have f13 : FR [] [] σ σ13 := fr_up (f_Mo_holds e13) (fun _ h9 => (by cases h9)) (fun _ h9 => (by cases h9))
      by_cases c14 : v13 = 0
      · rw [if_pos c14] at h
        exact fr_tr f13 (f_Mo_first_44 (fun h => ih h) h)
      · rw [if_neg c14] at h
        by_cases c17 : x2 = (-1)
        · rw [if_pos c17] at h
          exact fr_tr f13 (f_Mo_first_42 h)
        · rw [if_neg c17] at h
          obtain ⟨v21, σ21, e21, h⟩ := am_bd_some h
          have f21 : FR [] [] σ σ21 := fr_tr f13 (fr_up (f_Mo_isUnder e21) (fun _ h9 => (by cases h9)) (fun _ h9 => (by cases h9)))
          by_cases c22 : v21 = 0
          · rw [if_pos c22] at h
            exact fr_tr f21 (f_Mo_first_44 (fun h => ih h) h)
          · rw [if_neg c22] at h
            exact fr_tr f21 (f_Mo_first_42 h)
    · rw [if_neg c10] at h
      exact f_Mo_first_44 (fun h => ih h) h
  · rw [if_neg c4] at h
    exact fr_lf fr_rf h
set_option maxHeartbeats 4000000 in
theorem f_Mo_first_0 {x1 : Int32} {x2 : Int32} {σ σ' : am_S} {r : Int32} (h : g_Mo_first x1 x2 σ = some (r, σ')) : FR [] [] σ σ' := by
  unfold g_Mo_first at h
  exact f_Mo_first_2 4000 h
theorem f_Mo_first {x1 : Int32} {x2 : Int32} {σ σ' : am_S} {r : Int32} (h : g_Mo_first x1 x2 σ = some (r, σ')) : FR [] [] σ σ' := f_Mo_first_0 h
set_option maxHeartbeats 4000000 in
theorem f_Mo_symbol_74 {x1 : Int32} {σ σ' : am_S} {r : Int32} {go : Int32 → am_S → Option (Int32 × am_S)} (hgo : ∀ {x1 : Int32} {σ σ' : am_S} {r : Int32}, go x1 σ = some (r, σ') → FR [] [] σ σ') (h : g_Mo_symbol_74 go x1 σ = some (r, σ')) : FR [] [] σ σ' := by
  unfold g_Mo_symbol_74 at h
  exact hgo h
set_option maxHeartbeats 4000000 in
theorem f_Mo_symbol_2 : ∀ (n : Nat) {x1 : Int32} {σ σ' : am_S} {r : Int32} (h : g_Mo_symbol_2 n x1 σ = some (r, σ')), FR [] [] σ σ' := by
  intro n
  induction n with
  | zero =>
    intro x1 σ σ' r h
    cases h
  | succ n ih =>
  intro x1 σ σ' r h
  unfold g_Mo_symbol_2 at h
  by_cases c4 : x1 < (σ.1.1 0 54)
  · rw [if_pos c4] at h
    obtain ⟨_, h⟩ := gd_some h
    obtain ⟨v19, σ19, e19, h⟩ := am_bd_some h
    have f19 : FR [] [] σ σ19 := fr_up (f_Mo_peek e19) (fun _ h9 => (by cases h9)) (fun _ h9 => (by cases h9))
    obtain ⟨_, h⟩ := gd_some h
    by_cases c30 : ((σ19.2.1 2 (((σ.2.1 3 (8 : Int32).toNatClampNeg) + (24 * x1)) + 4).toNatClampNeg) &&& 15) = 2
    · rw [if_pos c30] at h
      obtain ⟨v40, σ40, e40, h⟩ := am_bd_some h
      have f40 : FR [] [] σ σ40 := fr_tr f19 (fr_up (f_Mo_peek e40) (fun _ h9 => (by cases h9)) (fun _ h9 => (by cases h9)))
      obtain ⟨v42, σ42, e42, h⟩ := am_bd_some h
      have f42 : FR [] [] σ σ42 := fr_tr f40 (fr_up (f_Mo_isWithin e42) (fun _ h9 => (by cases h9)) (fun _ h9 => (by cases h9)))
      by_cases c43 : v42 = 0
      · rw [if_pos c43] at h
        exact fr_tr f42 (f_Mo_symbol_74 (fun h => ih h) h)
      · rw [if_neg c43] at h
        exact fr_lf f42 h
    · rw [if_neg c30] at h
      exact fr_tr f19 (f_Mo_symbol_74 (fun h => ih h) h)
  · rw [if_neg c4] at h
    exact fr_lf fr_rf h
set_option maxHeartbeats 4000000 in
theorem f_Mo_symbol_0 {σ σ' : am_S} {r : Int32} (h : g_Mo_symbol σ = some (r, σ')) : FR [] [] σ σ' := by
  unfold g_Mo_symbol at h
  exact f_Mo_symbol_2 4000 h
theorem f_Mo_symbol {σ σ' : am_S} {r : Int32} (h : g_Mo_symbol σ = some (r, σ')) : FR [] [] σ σ' := f_Mo_symbol_0 h
set_option maxHeartbeats 4000000 in
theorem f_Mo_find_143 {σ σ' : am_S} {r : Int32} (h : g_Mo_find_143 σ = some (r, σ')) : FR [(0, 1), (0, 55), (0, 56), (0, 57), (0, 59)] [33] σ σ' := by
  unfold g_Mo_find_143 at h
  exact fr_lf fr_rf h
set_option maxHeartbeats 4000000 in
theorem f_Mo_find_102 {y0 : Int32} {σ σ' : am_S} {r : Int32} (h : g_Mo_find_102 y0 σ = some (r, σ')) : FR [(0, 1), (0, 55), (0, 56), (0, 57), (0, 59)] [33] σ σ' := by
  unfold g_Mo_find_102 at h
  by_cases c4 : y0 = (-1)
  · rw [if_pos c4] at h
    exact f_Mo_find_143 h
  · rw [if_neg c4] at h
    obtain ⟨_, h⟩ := gd_some h
    obtain ⟨v18, σ18, e18, h⟩ := am_bd_some h
    have f18 : FR [(0, 1), (0, 55), (0, 56), (0, 57), (0, 59)] [33] σ σ18 := fr_up (f_Mo_peek e18) (fun _ h9 => (by cases h9)) (fun _ h9 => (by cases h9))
    obtain ⟨v19, σ19, e19, h⟩ := am_bd_some h
    have f19 : FR [(0, 1), (0, 55), (0, 56), (0, 57), (0, 59)] [33] σ σ19 := fr_tr f18 (fr_up (f_Mo_textIn e19) (fun _ h9 => (by cases h9)) (fun _ h9 => (by cases h9)))
    exact fr_tr (fr_fi (fr_fi f19 (List.mem_of_getElem? (i := 3) rfl)) (List.mem_of_getElem? (i := 2) rfl)) (f_Mo_find_143 h)
set_option maxHeartbeats 4000000 in
theorem f_Mo_find_43 : ∀ (n : Nat) {x3 : Int32} {σ σ' : am_S} {r : Int32} (h : g_Mo_find_43 n x3 σ = some (r, σ')), FR [(0, 1), (0, 55), (0, 56), (0, 57), (0, 59)] [33] σ σ' := by
  intro n
  induction n with
  | zero =>
    intro x3 σ σ' r h
    cases h
  | succ n ih =>
  intro x3 σ σ' r h
  unfold g_Mo_find_43 at h
  by_cases c3 : x3 = (-1)
  · rw [if_pos c3] at h
    by_cases c10 : (σ.1.1 0 55) = 0
    · rw [if_pos c10] at h
      obtain ⟨v12, σ12, e12, h⟩ := am_bd_some h
      have f12 : FR [(0, 1), (0, 55), (0, 56), (0, 57), (0, 59)] [33] σ σ12 := fr_tr (fr_fi fr_rf (List.mem_of_getElem? (i := 2) rfl)) (fr_up (f_Mo_symbol e12) (fun _ h9 => (by cases h9)) (fun _ h9 => (by cases h9)))
      exact fr_tr f12 (f_Mo_find_102 h)
    · rw [if_neg c10] at h
      exact fr_tr (fr_fi fr_rf (List.mem_of_getElem? (i := 2) rfl)) (f_Mo_find_102 h)
  · rw [if_neg c3] at h
    obtain ⟨_, h⟩ := gd_some h
    obtain ⟨v19, σ19, e19, h⟩ := am_bd_some h
    have f19 : FR [(0, 1), (0, 55), (0, 56), (0, 57), (0, 59)] [33] σ σ19 := fr_tr (fr_fi (fr_ai fr_rf (List.mem_of_getElem? (i := 0) rfl)) (List.mem_of_getElem? (i := 1) rfl)) (fr_up (f_Mo_first e19) (fun _ h9 => (by cases h9)) (fun _ h9 => (by cases h9)))
    exact fr_tr f19 (ih h)
set_option maxHeartbeats 4000000 in
theorem f_Mo_find_13 {x1 : Int64} {y0 : Int32} {σ σ' : am_S} {r : Int32} (h : g_Mo_find_13 x1 y0 σ = some (r, σ')) : FR [(0, 1), (0, 55), (0, 56), (0, 57), (0, 59)] [33] σ σ' := by
  unfold g_Mo_find_13 at h
  by_cases c4 : (σ.1.1 0 5) = 0
  · rw [if_pos c4] at h
    exact fr_lf (fr_fi fr_rf (List.mem_of_getElem? (i := 0) rfl)) h
  · rw [if_neg c4] at h
    obtain ⟨v14, σ14, e14, h⟩ := am_bd_some h
    have f14 : FR [(0, 1), (0, 55), (0, 56), (0, 57), (0, 59)] [33] σ σ14 := fr_tr (fr_fi (fr_fl (fr_fi fr_rf (List.mem_of_getElem? (i := 0) rfl)) (List.mem_of_getElem? (i := 4) rfl)) (List.mem_of_getElem? (i := 1) rfl)) (fr_up (f_Mo_first e14) (fun _ h9 => (by cases h9)) (fun _ h9 => (by cases h9)))
    exact fr_tr f14 (f_Mo_find_43 4000 h)
set_option maxHeartbeats 4000000 in
theorem f_Mo_find_0 {x1 : Int64} {σ σ' : am_S} {r : Int32} (h : g_Mo_find x1 σ = some (r, σ')) : FR [(0, 1), (0, 55), (0, 56), (0, 57), (0, 59)] [33] σ σ' := by
  unfold g_Mo_find at h
  by_cases c4 : (σ.1.1 0 5) = 0
  · rw [if_pos c4] at h
    exact f_Mo_find_13 h
  · rw [if_neg c4] at h
    exact f_Mo_find_13 h
theorem f_Mo_find {x1 : Int64} {σ σ' : am_S} {r : Int32} (h : g_Mo_find x1 σ = some (r, σ')) : FR [(0, 1), (0, 55), (0, 56), (0, 57), (0, 59)] [33] σ σ' := f_Mo_find_0 h
set_option maxHeartbeats 4000000 in
theorem f_Mo_isFrame_17 {y0 : Int32} {σ σ' : am_S} {r : Int32} (h : g_Mo_isFrame_17 y0 σ = some (r, σ')) : FR [] [] σ σ' := by
  unfold g_Mo_isFrame_17 at h
  obtain ⟨_, h⟩ := gd_some h
  exact fr_lf fr_rf h
set_option maxHeartbeats 4000000 in
theorem f_Mo_isFrame_16 {σ σ' : am_S} {r : Int32} (h : g_Mo_isFrame_16 σ = some (r, σ')) : FR [] [] σ σ' := by
  unfold g_Mo_isFrame_16 at h
  exact f_Mo_isFrame_17 h
set_option maxHeartbeats 4000000 in
theorem f_Mo_isFrame_0 {x1 : Int32} {σ σ' : am_S} {r : Int32} (h : g_Mo_isFrame x1 σ = some (r, σ')) : FR [] [] σ σ' := by
  unfold g_Mo_isFrame at h
  by_cases c2 : x1 < 0
  · rw [if_pos c2] at h
    exact f_Mo_isFrame_16 h
  · rw [if_neg c2] at h
    by_cases c6 : x1 < (σ.1.1 0 56)
    · rw [if_pos c6] at h
      exact f_Mo_isFrame_17 h
    · rw [if_neg c6] at h
      exact f_Mo_isFrame_16 h
theorem f_Mo_isFrame {x1 : Int32} {σ σ' : am_S} {r : Int32} (h : g_Mo_isFrame x1 σ = some (r, σ')) : FR [] [] σ σ' := f_Mo_isFrame_0 h
set_option maxHeartbeats 4000000 in
theorem f_Mo_nameOf_83 {y0 : Int32} {σ σ' : am_S} {r : Int32} (h : g_Mo_nameOf_83 y0 σ = some (r, σ')) : FR [] [] σ σ' := by
  unfold g_Mo_nameOf_83 at h
  exact fr_lf fr_rf h
set_option maxHeartbeats 4000000 in
theorem f_Mo_nameOf_82 {σ σ' : am_S} {r : Int32} (h : g_Mo_nameOf_82 σ = some (r, σ')) : FR [] [] σ σ' := by
  unfold g_Mo_nameOf_82 at h
  exact f_Mo_nameOf_83 h
set_option maxHeartbeats 4000000 in
theorem f_Mo_nameOf_60 {x2 : Int32} {σ σ' : am_S} {r : Int32} (h : g_Mo_nameOf_60 x2 σ = some (r, σ')) : FR [] [] σ σ' := by
  unfold g_Mo_nameOf_60 at h
  by_cases c3 : x2 = (-1)
  · rw [if_pos c3] at h
    exact f_Mo_nameOf_82 h
  · rw [if_neg c3] at h
    obtain ⟨v7, σ7, e7, h⟩ := am_bd_some h
    have f7 : FR [] [] σ σ7 := fr_up (f_Mo_has e7) (fun _ h9 => (by cases h9)) (fun _ h9 => (by cases h9))
    by_cases c8 : v7 = 0
    · rw [if_pos c8] at h
      exact fr_tr f7 (f_Mo_nameOf_82 h)
    · rw [if_neg c8] at h
      obtain ⟨v11, σ11, e11, h⟩ := am_bd_some h
      have f11 : FR [] [] σ σ11 := fr_tr f7 (fr_up (f_Mo_nameAt e11) (fun _ h9 => (by cases h9)) (fun _ h9 => (by cases h9)))
      exact fr_tr f11 (f_Mo_nameOf_83 h)
set_option maxHeartbeats 4000000 in
theorem f_Mo_nameOf_28 : ∀ (n : Nat) {x2 : Int32} {x3 : Int32} {σ σ' : am_S} {r : Int32} (h : g_Mo_nameOf_28 n x2 x3 σ = some (r, σ')), FR [] [] σ σ' := by
  intro n
  induction n with
  | zero =>
    intro x2 x3 σ σ' r h
    cases h
  | succ n ih =>
  intro x2 x3 σ σ' r h
  unfold g_Mo_nameOf_28 at h
  by_cases c3 : x3 < 8
  · rw [if_pos c3] at h
    by_cases c6 : x2 = (-1)
    · rw [if_pos c6] at h
      exact f_Mo_nameOf_60 h
    · rw [if_neg c6] at h
      obtain ⟨v10, σ10, e10, h⟩ := am_bd_some h
      have f10 : FR [] [] σ σ10 := fr_up (f_Mo_has e10) (fun _ h9 => (by cases h9)) (fun _ h9 => (by cases h9))
      by_cases c11 : v10 = 0
      · rw [if_pos c11] at h
        obtain ⟨v14, σ14, e14, h⟩ := am_bd_some h
        have f14 : FR [] [] σ σ14 := fr_tr f10 (fr_up (f_Mo_origin e14) (fun _ h9 => (by cases h9)) (fun _ h9 => (by cases h9)))
        exact fr_tr f14 (ih h)
      · rw [if_neg c11] at h
        exact fr_tr f10 (f_Mo_nameOf_60 h)
  · rw [if_neg c3] at h
    exact f_Mo_nameOf_60 h
set_option maxHeartbeats 4000000 in
theorem f_Mo_nameOf_0 {x1 : Int32} {σ σ' : am_S} {r : Int32} (h : g_Mo_nameOf x1 σ = some (r, σ')) : FR [] [] σ σ' := by
  unfold g_Mo_nameOf at h
  by_cases c3 : (σ.1.1 0 55) = 0
  · rw [if_pos c3] at h
    exact fr_lf fr_rf h
  · rw [if_neg c3] at h
    obtain ⟨_, h⟩ := gd_some h
    exact f_Mo_nameOf_28 4000 h
theorem f_Mo_nameOf {x1 : Int32} {σ σ' : am_S} {r : Int32} (h : g_Mo_nameOf x1 σ = some (r, σ')) : FR [] [] σ σ' := f_Mo_nameOf_0 h
set_option maxHeartbeats 4000000 in
theorem f_Mo_character_9 {σ σ' : am_S} {r : Int32} (h : g_Mo_character_9 σ = some (r, σ')) : FR [] [] σ σ' := by
  unfold g_Mo_character_9 at h
  exact fr_lf fr_rf h
set_option maxHeartbeats 4000000 in
theorem f_Mo_character_13 : ∀ (n : Nat) {x1 : Int32} {x2 : Int32} {x3 : Int32} {σ σ' : am_S} {r : Int32} (h : g_Mo_character_13 n x1 x2 x3 σ = some (r, σ')), FR [] [] σ σ' := by
  intro n
  induction n with
  | zero =>
    intro x1 x2 x3 σ σ' r h
    cases h
  | succ n ih =>
  intro x1 x2 x3 σ σ' r h
  unfold g_Mo_character_13 at h
  by_cases c3 : x2 < x3
  · rw [if_pos c3] at h
    obtain ⟨_, h⟩ := gd_some h
    exact fr_lf fr_rf h
  · rw [if_neg c3] at h
    obtain ⟨_, h⟩ := gd_some h
    by_cases c10 : (σ.2.1 2 (x1 + x3).toNatClampNeg) = 0
    · rw [if_pos c10] at h
      exact fr_lf fr_rf h
    · rw [if_neg c10] at h
      exact ih h
set_option maxHeartbeats 4000000 in
theorem f_Mo_character_0 {x1 : Int32} {x2 : Int32} {σ σ' : am_S} {r : Int32} (h : g_Mo_character x1 x2 σ = some (r, σ')) : FR [] [] σ σ' := by
  unfold g_Mo_character at h
  by_cases c3 : x1 = (-1)
  · rw [if_pos c3] at h
    exact f_Mo_character_9 h
  · rw [if_neg c3] at h
    by_cases c5 : x2 < 0
    · rw [if_pos c5] at h
      exact f_Mo_character_9 h
    · rw [if_neg c5] at h
      exact f_Mo_character_13 4000 h
theorem f_Mo_character {x1 : Int32} {x2 : Int32} {σ σ' : am_S} {r : Int32} (h : g_Mo_character x1 x2 σ = some (r, σ')) : FR [] [] σ σ' := f_Mo_character_0 h
set_option maxHeartbeats 4000000 in
theorem f_Mo_name_27 {y0 : Int32} {σ σ' : am_S} {r : Int32} (h : g_Mo_name_27 y0 σ = some (r, σ')) : FR [(0, 1)] [] σ σ' := by
  unfold g_Mo_name_27 at h
  exact fr_lf fr_rf h
set_option maxHeartbeats 4000000 in
theorem f_Mo_name_0 {x1 : Int32} {x2 : Int32} {σ σ' : am_S} {r : Int32} (h : g_Mo_name x1 x2 σ = some (r, σ')) : FR [(0, 1)] [] σ σ' := by
  unfold g_Mo_name at h
  obtain ⟨v6, σ6, e6, h⟩ := am_bd_some h
  have f6 : FR [(0, 1)] [] σ σ6 := fr_tr (fr_fi fr_rf (List.mem_of_getElem? (i := 0) rfl)) (fr_up (f_Mo_isFrame e6) (fun _ h9 => (by cases h9)) (fun _ h9 => (by cases h9)))
  by_cases c7 : v6 = 0
  · rw [if_pos c7] at h
    exact fr_tr f6 (f_Mo_name_27 h)
  · rw [if_neg c7] at h
    obtain ⟨v11, σ11, e11, h⟩ := am_bd_some h
    have f11 : FR [(0, 1)] [] σ σ11 := fr_tr f6 (fr_up (f_Mo_nameOf e11) (fun _ h9 => (by cases h9)) (fun _ h9 => (by cases h9)))
    obtain ⟨v13, σ13, e13, h⟩ := am_bd_some h
    have f13 : FR [(0, 1)] [] σ σ13 := fr_tr f11 (fr_up (f_Mo_character e13) (fun _ h9 => (by cases h9)) (fun _ h9 => (by cases h9)))
    exact fr_tr f13 (f_Mo_name_27 h)
theorem f_Mo_name {x1 : Int32} {x2 : Int32} {σ σ' : am_S} {r : Int32} (h : g_Mo_name x1 x2 σ = some (r, σ')) : FR [(0, 1)] [] σ σ' := f_Mo_name_0 h
set_option maxHeartbeats 4000000 in
theorem f_Mo_rowOf_88 {x3 : Int32} {x5 : Int32} {y0 : Int32} {σ σ' : am_S} {r : Int32} {go : Int32 → Int32 → Int32 → am_S → Option (Int32 × am_S)} (hgo : ∀ {x3 : Int32} {x4 : Int32} {x5 : Int32} {σ σ' : am_S} {r : Int32}, go x3 x4 x5 σ = some (r, σ') → FR [] [] σ σ') (h : g_Mo_rowOf_88 go x3 x5 y0 σ = some (r, σ')) : FR [] [] σ σ' := by
  unfold g_Mo_rowOf_88 at h
  exact hgo h
set_option maxHeartbeats 4000000 in
theorem f_Mo_rowOf_58 : ∀ (n : Nat) {x3 : Int32} {x4 : Int32} {x5 : Int32} {σ σ' : am_S} {r : Int32} (h : g_Mo_rowOf_58 n x3 x4 x5 σ = some (r, σ')), FR [] [] σ σ' := by
  intro n
  induction n with
  | zero =>
    intro x3 x4 x5 σ σ' r h
    cases h
  | succ n ih =>
  intro x3 x4 x5 σ σ' r h
  unfold g_Mo_rowOf_58 at h
  by_cases c3 : x5 < x3
  · rw [if_pos c3] at h
    obtain ⟨_, h⟩ := gd_some h
    obtain ⟨v10, σ10, e10, h⟩ := am_bd_some h
    have f10 : FR [] [] σ σ10 := fr_up (f_Mo_isLess e10) (fun _ h9 => (by cases h9)) (fun _ h9 => (by cases h9))
    by_cases c11 : v10 = 0
    · rw [if_pos c11] at h
      exact fr_tr f10 (f_Mo_rowOf_88 (fun h => ih h) h)
    · rw [if_neg c11] at h
      exact fr_tr f10 (f_Mo_rowOf_88 (fun h => ih h) h)
  · rw [if_neg c3] at h
    exact fr_lf fr_rf h
set_option maxHeartbeats 4000000 in
theorem f_Mo_rowOf_115 {x1 : Int32} {x3 : Int32} {y0 : Int32} {σ σ' : am_S} {r : Int32} {go : Int32 → Int32 → Int32 → am_S → Option (Int32 × am_S)} (hgo : ∀ {x1 : Int32} {x2 : Int32} {x3 : Int32} {σ σ' : am_S} {r : Int32}, go x1 x2 x3 σ = some (r, σ') → FR [] [] σ σ') (h : g_Mo_rowOf_115 go x1 x3 y0 σ = some (r, σ')) : FR [] [] σ σ' := by
  unfold g_Mo_rowOf_115 at h
  exact hgo h
set_option maxHeartbeats 4000000 in
theorem f_Mo_rowOf_99 {x1 : Int32} {x2 : Int32} {x3 : Int32} {σ σ' : am_S} {r : Int32} {go : Int32 → Int32 → Int32 → am_S → Option (Int32 × am_S)} (hgo : ∀ {x1 : Int32} {x2 : Int32} {x3 : Int32} {σ σ' : am_S} {r : Int32}, go x1 x2 x3 σ = some (r, σ') → FR [] [] σ σ') (h : g_Mo_rowOf_99 go x1 x2 x3 σ = some (r, σ')) : FR [] [] σ σ' := by
  unfold g_Mo_rowOf_99 at h
  obtain ⟨_, h⟩ := gd_some h
  by_cases c5 : (σ.2.1 32 x3.toNatClampNeg) = 0
  · rw [if_pos c5] at h
    exact f_Mo_rowOf_115 hgo h
  · rw [if_neg c5] at h
    exact f_Mo_rowOf_115 hgo h
set_option maxHeartbeats 4000000 in
theorem f_Mo_rowOf_9 : ∀ (n : Nat) {x1 : Int32} {x2 : Int32} {x3 : Int32} {σ σ' : am_S} {r : Int32} (h : g_Mo_rowOf_9 n x1 x2 x3 σ = some (r, σ')), FR [] [] σ σ' := by
  intro n
  induction n with
  | zero =>
    intro x1 x2 x3 σ σ' r h
    cases h
  | succ n ih =>
  intro x1 x2 x3 σ σ' r h
  unfold g_Mo_rowOf_9 at h
  obtain ⟨_, h⟩ := gd_some h
  by_cases c8 : x3 < (σ.2.1 28 (x1 + 1).toNatClampNeg)
  · rw [if_pos c8] at h
    obtain ⟨_, h⟩ := gd_some h
    by_cases c13 : (σ.2.1 32 x3.toNatClampNeg) = 0
    · rw [if_pos c13] at h
      exact f_Mo_rowOf_99 (fun h => ih h) h
    · rw [if_neg c13] at h
      obtain ⟨_, h⟩ := gd_some h
      obtain ⟨_, h⟩ := gd_some h
      obtain ⟨v24, σ24, e24, h⟩ := am_bd_some h
      have f24 : FR [] [] σ σ24 := fr_up (f_Mo_isWithin e24) (fun _ h9 => (by cases h9)) (fun _ h9 => (by cases h9))
      by_cases c25 : v24 = 0
      · rw [if_pos c25] at h
        exact fr_tr f24 (f_Mo_rowOf_99 (fun h => ih h) h)
      · rw [if_neg c25] at h
        exact fr_tr f24 (f_Mo_rowOf_58 4000 h)
  · rw [if_neg c8] at h
    exact fr_lf fr_rf h
set_option maxHeartbeats 4000000 in
theorem f_Mo_rowOf_0 {x1 : Int32} {σ σ' : am_S} {r : Int32} (h : g_Mo_rowOf x1 σ = some (r, σ')) : FR [] [] σ σ' := by
  unfold g_Mo_rowOf at h
  obtain ⟨_, h⟩ := gd_some h
  exact f_Mo_rowOf_9 4000 h
theorem f_Mo_rowOf {x1 : Int32} {σ σ' : am_S} {r : Int32} (h : g_Mo_rowOf x1 σ = some (r, σ')) : FR [] [] σ σ' := f_Mo_rowOf_0 h
set_option maxHeartbeats 4000000 in
theorem f_Mo_file_20 {σ σ' : am_S} {r : Int32} (h : g_Mo_file_20 σ = some (r, σ')) : FR [(0, 1)] [] σ σ' := by
  unfold g_Mo_file_20 at h
  exact fr_lf fr_rf h
set_option maxHeartbeats 4000000 in
theorem f_Mo_file_163 {y0 : Int32} {σ σ' : am_S} {r : Int32} (h : g_Mo_file_163 y0 σ = some (r, σ')) : FR [(0, 1)] [] σ σ' := by
  unfold g_Mo_file_163 at h
  exact fr_lf fr_rf h
set_option maxHeartbeats 4000000 in
theorem f_Mo_file_121 {x2 : Int32} {x3 : Int32} {y0 : Int64} {σ σ' : am_S} {r : Int32} (h : g_Mo_file_121 x2 x3 y0 σ = some (r, σ')) : FR [(0, 1)] [] σ σ' := by
  unfold g_Mo_file_121 at h
  obtain ⟨_, h⟩ := gd_some h
  obtain ⟨v11, σ11, e11, h⟩ := am_bd_some h
  have f11 : FR [(0, 1)] [] σ σ11 := fr_up (f_Mo_in e11) (fun _ h9 => (by cases h9)) (fun _ h9 => (by cases h9))
  by_cases c12 : v11 = 0
  · rw [if_pos c12] at h
    exact fr_tr f11 (f_Mo_file_163 h)
  · rw [if_neg c12] at h
    obtain ⟨_, h⟩ := gd_some h
    obtain ⟨v24, σ24, e24, h⟩ := am_bd_some h
    have f24 : FR [(0, 1)] [] σ σ24 := fr_tr f11 (fr_up (f_Mo_character e24) (fun _ h9 => (by cases h9)) (fun _ h9 => (by cases h9)))
    exact fr_tr f24 (f_Mo_file_163 h)
set_option maxHeartbeats 4000000 in
theorem f_Mo_file_87 {x1 : Int32} {x2 : Int32} {x3 : Int32} {x4 : Int32} {x5 : Int32} {y0 : Int32} {σ σ' : am_S} {r : Int32} (h : g_Mo_file_87 x1 x2 x3 x4 x5 y0 σ = some (r, σ')) : FR [(0, 1)] [] σ σ' := by
  unfold g_Mo_file_87 at h
  by_cases c3 : y0 = 0
  · rw [if_pos c3] at h
    exact f_Mo_file_121 h
  · rw [if_neg c3] at h
    by_cases c5 : x1 = 0
    · rw [if_pos c5] at h
      obtain ⟨_, h⟩ := gd_some h
      exact f_Mo_file_121 h
    · rw [if_neg c5] at h
      obtain ⟨v9, σ9, e9, h⟩ := am_bd_some h
      have f9 : FR [(0, 1)] [] σ σ9 := fr_up (f_Mo_valueAt e9) (fun _ h9 => (by cases h9)) (fun _ h9 => (by cases h9))
      exact fr_tr f9 (f_Mo_file_121 h)
set_option maxHeartbeats 4000000 in
theorem f_Mo_file_60 {x1 : Int32} {x2 : Int32} {x3 : Int32} {x4 : Int32} {y0 : Int32} {σ σ' : am_S} {r : Int32} (h : g_Mo_file_60 x1 x2 x3 x4 y0 σ = some (r, σ')) : FR [(0, 1)] [] σ σ' := by
  unfold g_Mo_file_60 at h
  by_cases c3 : x1 = 0
  · rw [if_pos c3] at h
    by_cases c6 : x4 = (-1)
    · rw [if_pos c6] at h
      exact f_Mo_file_87 h
    · rw [if_neg c6] at h
      exact f_Mo_file_87 h
  · rw [if_neg c3] at h
    obtain ⟨v7, σ7, e7, h⟩ := am_bd_some h
    have f7 : FR [(0, 1)] [] σ σ7 := fr_up (f_Mo_has e7) (fun _ h9 => (by cases h9)) (fun _ h9 => (by cases h9))
    exact fr_tr f7 (f_Mo_file_87 h)
set_option maxHeartbeats 4000000 in
theorem f_Mo_file_0 {x1 : Int32} {x2 : Int32} {σ σ' : am_S} {r : Int32} (h : g_Mo_file x1 x2 σ = some (r, σ')) : FR [(0, 1)] [] σ σ' := by
  unfold g_Mo_file at h
  obtain ⟨v6, σ6, e6, h⟩ := am_bd_some h
  have f6 : FR [(0, 1)] [] σ σ6 := fr_tr (fr_fi fr_rf (List.mem_of_getElem? (i := 0) rfl)) (fr_up (f_Mo_isFrame e6) (fun _ h9 => (by cases h9)) (fun _ h9 => (by cases h9)))
  by_cases c7 : v6 = 0
  · rw [if_pos c7] at h
    exact fr_tr f6 (f_Mo_file_20 h)
  · rw [if_neg c7] at h
    by_cases c10 : (σ6.1.1 0 55) = 0
    · rw [if_pos c10] at h
      exact fr_tr f6 (f_Mo_file_20 h)
    · rw [if_neg c10] at h
      obtain ⟨_, h⟩ := gd_some h
      obtain ⟨_, h⟩ := gd_some h
      obtain ⟨v21, σ21, e21, h⟩ := am_bd_some h
      have f21 : FR [(0, 1)] [] σ σ21 := fr_tr f6 (fr_up (f_Mo_rowOf e21) (fun _ h9 => (by cases h9)) (fun _ h9 => (by cases h9)))
      by_cases c24 : x1 = 0
      · rw [if_pos c24] at h
        exact fr_tr f21 (f_Mo_file_60 h)
      · rw [if_neg c24] at h
        obtain ⟨_, h⟩ := gd_some h
        exact fr_tr f21 (f_Mo_file_60 h)
theorem f_Mo_file {x1 : Int32} {x2 : Int32} {σ σ' : am_S} {r : Int32} (h : g_Mo_file x1 x2 σ = some (r, σ')) : FR [(0, 1)] [] σ σ' := f_Mo_file_0 h
