set_option maxHeartbeats 4000000 in
theorem f_En_hasPlaces_32 {y0 : Int32} {σ σ' : am_S} {r : Int32} (h : g_En_hasPlaces_32 y0 σ = some (r, σ')) : FR [] [] σ σ' := by
  unfold g_En_hasPlaces_32 at h
  obtain ⟨_, h⟩ := gd_some h
  exact fr_lf fr_rf h
set_option maxHeartbeats 4000000 in
theorem f_En_hasPlaces_27 {σ σ' : am_S} {r : Int32} (h : g_En_hasPlaces_27 σ = some (r, σ')) : FR [] [] σ σ' := by
  unfold g_En_hasPlaces_27 at h
  exact f_En_hasPlaces_32 h
set_option maxHeartbeats 4000000 in
theorem f_En_hasPlaces_31 {σ σ' : am_S} {r : Int32} (h : g_En_hasPlaces_31 σ = some (r, σ')) : FR [] [] σ σ' := by
  unfold g_En_hasPlaces_31 at h
  exact f_En_hasPlaces_32 h
set_option maxHeartbeats 4000000 in
theorem f_En_hasPlaces_0 {x1 : Int32} {σ σ' : am_S} {r : Int32} (h : g_En_hasPlaces x1 σ = some (r, σ')) : FR [] [] σ σ' := by
  unfold g_En_hasPlaces at h
  obtain ⟨v4, σ4, e4, h⟩ := am_bd_some h
  have f4 : FR [] [] σ σ4 := fr_up (f_En_has e4) (fun _ h9 => (by cases h9)) (fun _ h9 => (by cases h9))
  by_cases c5 : v4 = 0
  · rw [if_pos c5] at h
    obtain ⟨v9, σ9, e9, h⟩ := am_bd_some h
    have f9 : FR [] [] σ σ9 := fr_tr f4 (fr_up (f_En_has e9) (fun _ h9 => (by cases h9)) (fun _ h9 => (by cases h9)))
    by_cases c10 : v9 = 0
    · rw [if_pos c10] at h
      exact fr_tr f9 (f_En_hasPlaces_31 h)
    · rw [if_neg c10] at h
      obtain ⟨v14, σ14, e14, h⟩ := am_bd_some h
      have f14 : FR [] [] σ σ14 := fr_tr f9 (fr_up (f_En_has e14) (fun _ h9 => (by cases h9)) (fun _ h9 => (by cases h9)))
      by_cases c15 : v14 = 0
      · rw [if_pos c15] at h
        exact fr_tr f14 (f_En_hasPlaces_31 h)
      · rw [if_neg c15] at h
        exact fr_tr f14 (f_En_hasPlaces_27 h)
  · rw [if_neg c5] at h
    exact fr_tr f4 (f_En_hasPlaces_27 h)
theorem f_En_hasPlaces {x1 : Int32} {σ σ' : am_S} {r : Int32} (h : g_En_hasPlaces x1 σ = some (r, σ')) : FR [] [] σ σ' := f_En_hasPlaces_0 h
set_option maxHeartbeats 4000000 in
theorem f_Ab_withNumber_2 : ∀ (n : Nat) {x1 : Int64} {x3 : Int32} {σ σ' : am_S} {r : Int32} (h : g_Ab_withNumber_2 n x1 x3 σ = some (r, σ')), FR [] [] σ σ' := by
  intro n
  induction n with
  | zero =>
    intro x1 x3 σ σ' r h
    cases h
  | succ n ih =>
  intro x1 x3 σ σ' r h
  unfold g_Ab_withNumber_2 at h
  by_cases c4 : x3 < (σ.1.1 22 7)
  · rw [if_pos c4] at h
    obtain ⟨_, h⟩ := gd_some h
    by_cases c11 : (lg_cmp (σ.2.2 23 x3.toNatClampNeg) x1) = 0
    · rw [if_pos c11] at h
      exact fr_lf fr_rf h
    · rw [if_neg c11] at h
      exact ih h
  · rw [if_neg c4] at h
    exact fr_lf fr_rf h
set_option maxHeartbeats 4000000 in
theorem f_Ab_withNumber_0 {x1 : Int64} {σ σ' : am_S} {r : Int32} (h : g_Ab_withNumber x1 σ = some (r, σ')) : FR [] [] σ σ' := by
  unfold g_Ab_withNumber at h
  exact f_Ab_withNumber_2 4000 h
theorem f_Ab_withNumber {x1 : Int64} {σ σ' : am_S} {r : Int32} (h : g_Ab_withNumber x1 σ = some (r, σ')) : FR [] [] σ σ' := f_Ab_withNumber_0 h
set_option maxHeartbeats 4000000 in
theorem f_Ab_isConstantForm_69 {y0 : Int32} {σ σ' : am_S} {r : Int32} (h : g_Ab_isConstantForm_69 y0 σ = some (r, σ')) : FR [] [] σ σ' := by
  unfold g_Ab_isConstantForm_69 at h
  obtain ⟨_, h⟩ := gd_some h
  exact fr_lf fr_rf h
set_option maxHeartbeats 4000000 in
theorem f_Ab_isConstantForm_64 {σ σ' : am_S} {r : Int32} (h : g_Ab_isConstantForm_64 σ = some (r, σ')) : FR [] [] σ σ' := by
  unfold g_Ab_isConstantForm_64 at h
  exact f_Ab_isConstantForm_69 h
set_option maxHeartbeats 4000000 in
theorem f_Ab_isConstantForm_0 {x0 : Int64} {σ σ' : am_S} {r : Int32} (h : g_Ab_isConstantForm x0 σ = some (r, σ')) : FR [] [] σ σ' := by
  unfold g_Ab_isConstantForm at h
  by_cases c4 : (lg_cmp x0 11) = 0
  · rw [if_pos c4] at h
    exact f_Ab_isConstantForm_64 h
  · rw [if_neg c4] at h
    by_cases c8 : (lg_cmp x0 5) = 0
    · rw [if_pos c8] at h
      exact f_Ab_isConstantForm_64 h
    · rw [if_neg c8] at h
      by_cases c12 : (lg_cmp x0 6) = 0
      · rw [if_pos c12] at h
        exact f_Ab_isConstantForm_64 h
      · rw [if_neg c12] at h
        by_cases c16 : (lg_cmp x0 7) = 0
        · rw [if_pos c16] at h
          exact f_Ab_isConstantForm_64 h
        · rw [if_neg c16] at h
          by_cases c20 : (lg_cmp x0 13) = 0
          · rw [if_pos c20] at h
            exact f_Ab_isConstantForm_64 h
          · rw [if_neg c20] at h
            by_cases c24 : (lg_cmp x0 15) = 0
            · rw [if_pos c24] at h
              exact f_Ab_isConstantForm_64 h
            · rw [if_neg c24] at h
              by_cases c28 : (lg_cmp x0 33) = 0
              · rw [if_pos c28] at h
                exact f_Ab_isConstantForm_64 h
              · rw [if_neg c28] at h
                by_cases c32 : (lg_cmp x0 25) = 0
                · rw [if_pos c32] at h
                  exact f_Ab_isConstantForm_64 h
                · rw [if_neg c32] at h
                  exact f_Ab_isConstantForm_69 h
theorem f_Ab_isConstantForm {x0 : Int64} {σ σ' : am_S} {r : Int32} (h : g_Ab_isConstantForm x0 σ = some (r, σ')) : FR [] [] σ σ' := f_Ab_isConstantForm_0 h
set_option maxHeartbeats 4000000 in
theorem f_Ab_isTextForm_37 {y0 : Int32} {σ σ' : am_S} {r : Int32} (h : g_Ab_isTextForm_37 y0 σ = some (r, σ')) : FR [] [] σ σ' := by
  unfold g_Ab_isTextForm_37 at h
  obtain ⟨_, h⟩ := gd_some h
  exact fr_lf fr_rf h
set_option maxHeartbeats 4000000 in
theorem f_Ab_isTextForm_32 {σ σ' : am_S} {r : Int32} (h : g_Ab_isTextForm_32 σ = some (r, σ')) : FR [] [] σ σ' := by
  unfold g_Ab_isTextForm_32 at h
  exact f_Ab_isTextForm_37 h
set_option maxHeartbeats 4000000 in
theorem f_Ab_isTextForm_0 {x0 : Int64} {σ σ' : am_S} {r : Int32} (h : g_Ab_isTextForm x0 σ = some (r, σ')) : FR [] [] σ σ' := by
  unfold g_Ab_isTextForm at h
  by_cases c4 : (lg_cmp x0 8) = 0
  · rw [if_pos c4] at h
    exact f_Ab_isTextForm_32 h
  · rw [if_neg c4] at h
    by_cases c8 : (lg_cmp x0 14) = 0
    · rw [if_pos c8] at h
      exact f_Ab_isTextForm_32 h
    · rw [if_neg c8] at h
      by_cases c12 : (lg_cmp x0 31) = 0
      · rw [if_pos c12] at h
        exact f_Ab_isTextForm_32 h
      · rw [if_neg c12] at h
        by_cases c16 : (lg_cmp x0 37) = 0
        · rw [if_pos c16] at h
          exact f_Ab_isTextForm_32 h
        · rw [if_neg c16] at h
          exact f_Ab_isTextForm_37 h
theorem f_Ab_isTextForm {x0 : Int64} {σ σ' : am_S} {r : Int32} (h : g_Ab_isTextForm x0 σ = some (r, σ')) : FR [] [] σ σ' := f_Ab_isTextForm_0 h
set_option maxHeartbeats 4000000 in
theorem f_Ab_isForm_65 {y0 : Int32} {σ σ' : am_S} {r : Int32} (h : g_Ab_isForm_65 y0 σ = some (r, σ')) : FR [] [] σ σ' := by
  unfold g_Ab_isForm_65 at h
  obtain ⟨_, h⟩ := gd_some h
  exact fr_lf fr_rf h
set_option maxHeartbeats 4000000 in
theorem f_Ab_isForm_60 {σ σ' : am_S} {r : Int32} (h : g_Ab_isForm_60 σ = some (r, σ')) : FR [] [] σ σ' := by
  unfold g_Ab_isForm_60 at h
  exact f_Ab_isForm_65 h
set_option maxHeartbeats 4000000 in
theorem f_Ab_isForm_0 {x0 : Int64} {σ σ' : am_S} {r : Int32} (h : g_Ab_isForm x0 σ = some (r, σ')) : FR [] [] σ σ' := by
  unfold g_Ab_isForm at h
  by_cases c4 : (lg_cmp x0 1) = 0
  · rw [if_pos c4] at h
    exact f_Ab_isForm_60 h
  · rw [if_neg c4] at h
    obtain ⟨v6, σ6, e6, h⟩ := am_bd_some h
    have f6 : FR [] [] σ σ6 := fr_up (f_Ab_isConstantForm e6) (fun _ h9 => (by cases h9)) (fun _ h9 => (by cases h9))
    by_cases c7 : v6 = 0
    · rw [if_pos c7] at h
      obtain ⟨v9, σ9, e9, h⟩ := am_bd_some h
      have f9 : FR [] [] σ σ9 := fr_tr f6 (fr_up (f_Ab_isTextForm e9) (fun _ h9 => (by cases h9)) (fun _ h9 => (by cases h9)))
      by_cases c10 : v9 = 0
      · rw [if_pos c10] at h
        by_cases c14 : (lg_cmp x0 19) = 0
        · rw [if_pos c14] at h
          exact fr_tr f9 (f_Ab_isForm_60 h)
        · rw [if_neg c14] at h
          by_cases c18 : (lg_cmp x0 23) = 0
          · rw [if_pos c18] at h
            exact fr_tr f9 (f_Ab_isForm_60 h)
          · rw [if_neg c18] at h
            by_cases c22 : (lg_cmp x0 24) = 0
            · rw [if_pos c22] at h
              exact fr_tr f9 (f_Ab_isForm_60 h)
            · rw [if_neg c22] at h
              by_cases c26 : (lg_cmp x0 27) = 0
              · rw [if_pos c26] at h
                exact fr_tr f9 (f_Ab_isForm_60 h)
              · rw [if_neg c26] at h
                by_cases c30 : (lg_cmp x0 35) = 0
                · rw [if_pos c30] at h
                  exact fr_tr f9 (f_Ab_isForm_60 h)
                · rw [if_neg c30] at h
                  exact fr_tr f9 (f_Ab_isForm_65 h)
      · rw [if_neg c10] at h
        exact fr_tr f9 (f_Ab_isForm_60 h)
    · rw [if_neg c7] at h
      exact fr_tr f6 (f_Ab_isForm_60 h)
theorem f_Ab_isForm {x0 : Int64} {σ σ' : am_S} {r : Int32} (h : g_Ab_isForm x0 σ = some (r, σ')) : FR [] [] σ σ' := f_Ab_isForm_0 h
set_option maxHeartbeats 4000000 in
theorem f_Ab_readOne_31_32 {σ σ' : am_S} {r : Int32} (h : g_Ab_readOne_31_32 σ = some (r, σ')) : FR [(31, 1), (31, 3)] [24, 25, 26, 27, 28, 29] σ σ' := by
  unfold g_Ab_readOne_31_32 at h
  exact fr_lf fr_rf h
set_option maxHeartbeats 4000000 in
theorem f_Ab_readOne_31_127 {σ σ' : am_S} {r : Int32} (h : g_Ab_readOne_31_127 σ = some (r, σ')) : FR [(31, 1), (31, 3)] [24, 25, 26, 27, 28, 29] σ σ' := by
  unfold g_Ab_readOne_31_127 at h
  exact fr_lf fr_rf h
set_option maxHeartbeats 4000000 in
theorem f_Ab_readOne_31_183 {x4 : Int32} {y0 : Int64} {y1 : Int32} {σ σ' : am_S} {r : Int32} {go : Int32 → am_S → Option (Int32 × am_S)} (hgo : ∀ {x4 : Int32} {σ σ' : am_S} {r : Int32}, go x4 σ = some (r, σ') → FR [(31, 1), (31, 3)] [24, 25, 26, 27, 28, 29] σ σ') (h : g_Ab_readOne_31_183 go x4 y0 y1 σ = some (r, σ')) : FR [(31, 1), (31, 3)] [24, 25, 26, 27, 28, 29] σ σ' := by
  unfold g_Ab_readOne_31_183 at h
  obtain ⟨_, h⟩ := gd_some h
  exact fr_tr (fr_al fr_rf (List.mem_of_getElem? (i := 5) rfl)) (hgo h)
set_option maxHeartbeats 4000000 in
theorem f_Ab_readOne_31_112 {x4 : Int32} {x5 : Int64} {x7 : Int64} {σ σ' : am_S} {r : Int32} {go : Int32 → am_S → Option (Int32 × am_S)} (hgo : ∀ {x4 : Int32} {σ σ' : am_S} {r : Int32}, go x4 σ = some (r, σ') → FR [(31, 1), (31, 3)] [24, 25, 26, 27, 28, 29] σ σ') (h : g_Ab_readOne_31_112 go x4 x5 x7 σ = some (r, σ')) : FR [(31, 1), (31, 3)] [24, 25, 26, 27, 28, 29] σ σ' := by
  unfold g_Ab_readOne_31_112 at h
  by_cases c3 : x4 = 12
  · rw [if_pos c3] at h
    exact f_Ab_readOne_31_127 h
  · rw [if_neg c3] at h
    obtain ⟨v5, σ5, e5, h⟩ := am_bd_some h
    have f5 : FR [(31, 1), (31, 3)] [24, 25, 26, 27, 28, 29] σ σ5 := fr_up (f_Ab_isForm e5) (fun _ h9 => (by cases h9)) (fun _ h9 => (by cases h9))
    by_cases c6 : v5 = 0
    · rw [if_pos c6] at h
      exact fr_tr f5 (f_Ab_readOne_31_127 h)
    · rw [if_neg c6] at h
      obtain ⟨_, h⟩ := gd_some h
      obtain ⟨_, h⟩ := gd_some h
      by_cases c31 : (lg_cmp x7 33) = 0
      · rw [if_pos c31] at h
        obtain ⟨v33, σ33, e33, h⟩ := am_bd_some h
        have f33 : FR [(31, 1), (31, 3)] [24, 25, 26, 27, 28, 29] σ σ33 := fr_tr (fr_ai (fr_al f5 (List.mem_of_getElem? (i := 3) rfl)) (List.mem_of_getElem? (i := 4) rfl)) (fr_up (f_Cu_sleb e33) (fun _ h9 => h9) (by decide))
        exact fr_tr f33 (f_Ab_readOne_31_183 hgo h)
      · rw [if_neg c31] at h
        exact fr_tr (fr_ai (fr_al f5 (List.mem_of_getElem? (i := 3) rfl)) (List.mem_of_getElem? (i := 4) rfl)) (f_Ab_readOne_31_183 hgo h)
set_option maxHeartbeats 4000000 in
theorem f_Ab_readOne_31_57 : ∀ (n : Nat) {x4 : Int32} {σ σ' : am_S} {r : Int32} (h : g_Ab_readOne_31_57 n x4 σ = some (r, σ')), FR [(31, 1), (31, 3)] [24, 25, 26, 27, 28, 29] σ σ' := by
  intro n
  induction n with
  | zero =>
    intro x4 σ σ' r h
    cases h
  | succ n ih =>
  intro x4 σ σ' r h
  unfold g_Ab_readOne_31_57 at h
  by_cases c3 : 12 < x4
  · rw [if_pos c3] at h
    exact fr_lf fr_rf h
  · rw [if_neg c3] at h
    obtain ⟨v5, σ5, e5, h⟩ := am_bd_some h
    have f5 : FR [(31, 1), (31, 3)] [24, 25, 26, 27, 28, 29] σ σ5 := fr_up (f_Cu_uleb e5) (fun _ h9 => h9) (by decide)
    obtain ⟨v8, σ8, e8, h⟩ := am_bd_some h
    have f8 : FR [(31, 1), (31, 3)] [24, 25, 26, 27, 28, 29] σ σ8 := fr_tr f5 (fr_up (f_Cu_uleb e8) (fun _ h9 => h9) (by decide))
    by_cases c12 : (σ8.1.1 31 3) = 0
    · rw [if_pos c12] at h
      by_cases c16 : (lg_cmp v5 0) = 0
      · rw [if_pos c16] at h
        by_cases c20 : (lg_cmp v8 0) = 0
        · rw [if_pos c20] at h
          obtain ⟨_, h⟩ := gd_some h
          exact fr_lf (fr_ai f8 (List.mem_of_getElem? (i := 2) rfl)) h
        · rw [if_neg c20] at h
          exact fr_tr f8 (f_Ab_readOne_31_112 (fun h => ih h) h)
      · rw [if_neg c16] at h
        exact fr_tr f8 (f_Ab_readOne_31_112 (fun h => ih h) h)
    · rw [if_neg c12] at h
      exact fr_lf f8 h
set_option maxHeartbeats 4000000 in
theorem f_Ab_readOne_31_53 {y0 : Int32} {y1 : Int32} {σ σ' : am_S} {r : Int32} (h : g_Ab_readOne_31_53 y0 y1 σ = some (r, σ')) : FR [(31, 1), (31, 3)] [24, 25, 26, 27, 28, 29] σ σ' := by
  unfold g_Ab_readOne_31_53 at h
  obtain ⟨_, h⟩ := gd_some h
  exact fr_tr (fr_ai fr_rf (List.mem_of_getElem? (i := 1) rfl)) (f_Ab_readOne_31_57 4000 h)
set_option maxHeartbeats 4000000 in
theorem f_Ab_readOne_31_0 {σ σ' : am_S} {r : Int32} (h : g_Ab_readOne_31 σ = some (r, σ')) : FR [(31, 1), (31, 3)] [24, 25, 26, 27, 28, 29] σ σ' := by
  unfold g_Ab_readOne_31 at h
  obtain ⟨v6, σ6, e6, h⟩ := am_bd_some h
  have f6 : FR [(31, 1), (31, 3)] [24, 25, 26, 27, 28, 29] σ σ6 := fr_up (f_Cu_uleb e6) (fun _ h9 => h9) (by decide)
  obtain ⟨_, h⟩ := gd_some h
  obtain ⟨v10, σ10, e10, h⟩ := am_bd_some h
  have f10 : FR [(31, 1), (31, 3)] [24, 25, 26, 27, 28, 29] σ σ10 := fr_tr (fr_al f6 (List.mem_of_getElem? (i := 0) rfl)) (fr_up (f_Cu_number e10) (fun _ h9 => h9) (by decide))
  by_cases c14 : (σ10.1.1 31 3) = 0
  · rw [if_pos c14] at h
    by_cases c18 : 0 < (lg_cmp v10 1)
    · rw [if_pos c18] at h
      exact fr_tr f10 (f_Ab_readOne_31_32 h)
    · rw [if_neg c18] at h
      by_cases c26 : (lg_cmp v10 1) = 0
      · rw [if_pos c26] at h
        exact fr_tr f10 (f_Ab_readOne_31_53 h)
      · rw [if_neg c26] at h
        exact fr_tr f10 (f_Ab_readOne_31_53 h)
  · rw [if_neg c14] at h
    exact fr_tr f10 (f_Ab_readOne_31_32 h)
theorem f_Ab_readOne_31 {σ σ' : am_S} {r : Int32} (h : g_Ab_readOne_31 σ = some (r, σ')) : FR [(31, 1), (31, 3)] [24, 25, 26, 27, 28, 29] σ σ' := f_Ab_readOne_31_0 h
set_option maxHeartbeats 4000000 in
theorem f_Ab_read_31_53 {σ σ' : am_S} {r : Int32} (h : g_Ab_read_31_53 σ = some (r, σ')) : FR [(22, 7), (31, 1), (31, 3)] [23, 24, 25, 26, 27, 28, 29] σ σ' := by
  unfold g_Ab_read_31_53 at h
  exact fr_lf fr_rf h
set_option maxHeartbeats 4000000 in
theorem f_Ab_read_31_7 : ∀ (n : Nat) {x2 : Int32} {σ σ' : am_S} {r : Int32} (h : g_Ab_read_31_7 n x2 σ = some (r, σ')), FR [(22, 7), (31, 1), (31, 3)] [23, 24, 25, 26, 27, 28, 29] σ σ' := by
  intro n
  induction n with
  | zero =>
    intro x2 σ σ' r h
    cases h
  | succ n ih =>
  intro x2 σ σ' r h
  unfold g_Ab_read_31_7 at h
  by_cases c3 : 40 < x2
  · rw [if_pos c3] at h
    exact fr_lf fr_rf h
  · rw [if_neg c3] at h
    obtain ⟨v5, σ5, e5, h⟩ := am_bd_some h
    have f5 : FR [(22, 7), (31, 1), (31, 3)] [23, 24, 25, 26, 27, 28, 29] σ σ5 := fr_up (f_Cu_uleb e5) (by decide) (by decide)
    by_cases c9 : (σ5.1.1 31 3) = 0
    · rw [if_pos c9] at h
      by_cases c13 : (lg_cmp v5 0) = 0
      · rw [if_pos c13] at h
        exact fr_lf f5 h
      · rw [if_neg c13] at h
        by_cases c17 : (σ5.1.1 22 7) = 40
        · rw [if_pos c17] at h
          exact fr_tr f5 (f_Ab_read_31_53 h)
        · rw [if_neg c17] at h
          obtain ⟨v20, σ20, e20, h⟩ := am_bd_some h
          have f20 : FR [(22, 7), (31, 1), (31, 3)] [23, 24, 25, 26, 27, 28, 29] σ σ20 := fr_tr f5 (fr_up (f_Ab_withNumber e20) (fun _ h9 => (by cases h9)) (fun _ h9 => (by cases h9)))
          by_cases c22 : v20 = (-1)
          · rw [if_pos c22] at h
            obtain ⟨_, h⟩ := gd_some h
            obtain ⟨v31, σ31, e31, h⟩ := am_bd_some h
            have f31 : FR [(22, 7), (31, 1), (31, 3)] [23, 24, 25, 26, 27, 28, 29] σ σ31 := fr_tr (fr_al f20 (List.mem_of_getElem? (i := 0) rfl)) (fr_up (f_Ab_readOne_31 e31) (by decide) (by decide))
            by_cases c32 : v31 = 0
            · rw [if_pos c32] at h
              exact fr_lf f31 h
            · rw [if_neg c32] at h
              exact fr_tr (fr_fi f31 (List.mem_of_getElem? (i := 0) rfl)) (ih h)
          · rw [if_neg c22] at h
            exact fr_tr f20 (f_Ab_read_31_53 h)
    · rw [if_neg c9] at h
      exact fr_lf f5 h
set_option maxHeartbeats 4000000 in
theorem f_Ab_read_31_0 {σ σ' : am_S} {r : Int32} (h : g_Ab_read_31 σ = some (r, σ')) : FR [(22, 7), (31, 1), (31, 3)] [23, 24, 25, 26, 27, 28, 29] σ σ' := by
  unfold g_Ab_read_31 at h
  exact fr_tr (fr_fi fr_rf (List.mem_of_getElem? (i := 0) rfl)) (f_Ab_read_31_7 4000 h)
theorem f_Ab_read_31 {σ σ' : am_S} {r : Int32} (h : g_Ab_read_31 σ = some (r, σ')) : FR [(22, 7), (31, 1), (31, 3)] [23, 24, 25, 26, 27, 28, 29] σ σ' := f_Ab_read_31_0 h
set_option maxHeartbeats 4000000 in
theorem f_Ur_readHead_48 {σ σ' : am_S} {r : Int32} (h : g_Ur_readHead_48 σ = some (r, σ')) : FR [(10, 11), (22, 7), (30, 1), (30, 2), (30, 3), (31, 1), (31, 2), (31, 3)] [17, 18, 19, 20, 23, 24, 25, 26, 27, 28, 29] σ σ' := by
  unfold g_Ur_readHead_48 at h
  exact fr_lf fr_rf h
set_option maxHeartbeats 4000000 in
theorem f_Ur_readHead_110 {σ σ' : am_S} {r : Int32} (h : g_Ur_readHead_110 σ = some (r, σ')) : FR [(10, 11), (22, 7), (30, 1), (30, 2), (30, 3), (31, 1), (31, 2), (31, 3)] [17, 18, 19, 20, 23, 24, 25, 26, 27, 28, 29] σ σ' := by
  unfold g_Ur_readHead_110 at h
  exact fr_lf fr_rf h
set_option maxHeartbeats 4000000 in
theorem f_Ur_readHead_0 {σ σ' : am_S} {r : Int32} (h : g_Ur_readHead σ = some (r, σ')) : FR [(10, 11), (22, 7), (30, 1), (30, 2), (30, 3), (31, 1), (31, 2), (31, 3)] [17, 18, 19, 20, 23, 24, 25, 26, 27, 28, 29] σ σ' := by
  unfold g_Ur_readHead at h
  obtain ⟨v8, σ8, e8, h⟩ := am_bd_some h
  have f8 : FR [(10, 11), (22, 7), (30, 1), (30, 2), (30, 3), (31, 1), (31, 2), (31, 3)] [17, 18, 19, 20, 23, 24, 25, 26, 27, 28, 29] σ σ8 := fr_up (f_Cu_number e8) (by decide) (by decide)
  by_cases c13 : (σ8.1.1 30 3) = 0
  · rw [if_pos c13] at h
    by_cases c24 : 0 < (lg_cmp v8 (((σ8.1.1 30 2) - (σ8.1.1 30 1)).toInt64))
    · rw [if_pos c24] at h
      exact fr_tr f8 (f_Ur_readHead_48 h)
    · rw [if_neg c24] at h
      obtain ⟨v37, σ37, e37, h⟩ := am_bd_some h
      have f37 : FR [(10, 11), (22, 7), (30, 1), (30, 2), (30, 3), (31, 1), (31, 2), (31, 3)] [17, 18, 19, 20, 23, 24, 25, 26, 27, 28, 29] σ σ37 := fr_tr (fr_fi f8 (List.mem_of_getElem? (i := 3) rfl)) (fr_up (f_Cu_number e37) (by decide) (by decide))
      by_cases c40 : (lg_cmp v37 5) = 0
      · rw [if_pos c40] at h
        obtain ⟨v44, σ44, e44, h⟩ := am_bd_some h
        have f44 : FR [(10, 11), (22, 7), (30, 1), (30, 2), (30, 3), (31, 1), (31, 2), (31, 3)] [17, 18, 19, 20, 23, 24, 25, 26, 27, 28, 29] σ σ44 := fr_tr f37 (fr_up (f_Cu_number e44) (by decide) (by decide))
        by_cases c47 : (lg_cmp v44 1) = 0
        · rw [if_pos c47] at h
          obtain ⟨v51, σ51, e51, h⟩ := am_bd_some h
          have f51 : FR [(10, 11), (22, 7), (30, 1), (30, 2), (30, 3), (31, 1), (31, 2), (31, 3)] [17, 18, 19, 20, 23, 24, 25, 26, 27, 28, 29] σ σ51 := fr_tr f44 (fr_up (f_Cu_number e51) (by decide) (by decide))
          by_cases c54 : (lg_cmp v51 8) = 0
          · rw [if_pos c54] at h
            obtain ⟨v58, σ58, e58, h⟩ := am_bd_some h
            have f58 : FR [(10, 11), (22, 7), (30, 1), (30, 2), (30, 3), (31, 1), (31, 2), (31, 3)] [17, 18, 19, 20, 23, 24, 25, 26, 27, 28, 29] σ σ58 := fr_tr f51 (fr_up (f_Cu_number e58) (by decide) (by decide))
            by_cases c63 : (σ58.1.1 30 3) = 0
            · rw [if_pos c63] at h
              obtain ⟨v67, σ67, e67, h⟩ := am_bd_some h
              have f67 : FR [(10, 11), (22, 7), (30, 1), (30, 2), (30, 3), (31, 1), (31, 2), (31, 3)] [17, 18, 19, 20, 23, 24, 25, 26, 27, 28, 29] σ σ67 := fr_tr f58 (fr_up (f_En_addUnit e67) (by decide) (by decide))
              obtain ⟨v74, σ74, e74, h⟩ := am_bd_some h
              have f74 : FR [(10, 11), (22, 7), (30, 1), (30, 2), (30, 3), (31, 1), (31, 2), (31, 3)] [17, 18, 19, 20, 23, 24, 25, 26, 27, 28, 29] σ σ74 := fr_tr f67 (fr_up (f_Se_point e74) (by decide) (by decide))
              obtain ⟨v79, σ79, e79, h⟩ := am_bd_some h
              have f79 : FR [(10, 11), (22, 7), (30, 1), (30, 2), (30, 3), (31, 1), (31, 2), (31, 3)] [17, 18, 19, 20, 23, 24, 25, 26, 27, 28, 29] σ σ79 := fr_tr f74 (fr_up (f_Ab_read_31 e79) (by decide) (by decide))
              obtain ⟨_, h⟩ := gd_some h
              exact fr_lf f79 h
            · rw [if_neg c63] at h
              exact fr_lf f58 h
          · rw [if_neg c54] at h
            exact fr_tr f51 (f_Ur_readHead_110 h)
        · rw [if_neg c47] at h
          exact fr_tr f44 (f_Ur_readHead_110 h)
      · rw [if_neg c40] at h
        exact fr_tr f37 (f_Ur_readHead_110 h)
  · rw [if_neg c13] at h
    exact fr_tr f8 (f_Ur_readHead_48 h)
theorem f_Ur_readHead {σ σ' : am_S} {r : Int32} (h : g_Ur_readHead σ = some (r, σ')) : FR [(10, 11), (22, 7), (30, 1), (30, 2), (30, 3), (31, 1), (31, 2), (31, 3)] [17, 18, 19, 20, 23, 24, 25, 26, 27, 28, 29] σ σ' := f_Ur_readHead_0 h
set_option maxHeartbeats 4000000 in
theorem f_Ur_endChildren_0 {σ σ' : am_S} {r : Int32} (h : g_Ur_endChildren σ = some (r, σ')) : FR [(21, 5), (21, 6)] [] σ σ' := by
  unfold g_Ur_endChildren at h
  by_cases c3 : (σ.1.1 21 6) = 0
  · rw [if_pos c3] at h
    exact fr_lf fr_rf h
  · rw [if_neg c3] at h
    obtain ⟨_, h⟩ := gd_some h
    exact fr_lf (fr_fi (fr_fi fr_rf (List.mem_of_getElem? (i := 1) rfl)) (List.mem_of_getElem? (i := 0) rfl)) h
theorem f_Ur_endChildren {σ σ' : am_S} {r : Int32} (h : g_Ur_endChildren σ = some (r, σ')) : FR [(21, 5), (21, 6)] [] σ σ' := f_Ur_endChildren_0 h
set_option maxHeartbeats 4000000 in
theorem f_Ur_readValue_164 {σ σ' : am_S} {r : Int64} (h : g_Ur_readValue_164 σ = some (r, σ')) : FR [(30, 1), (30, 3)] [] σ σ' := by
  unfold g_Ur_readValue_164 at h
  obtain ⟨v4, σ4, e4, h⟩ := am_bd_some h
  have f4 : FR [(30, 1), (30, 3)] [] σ σ4 := f_Cu_number e4
  exact fr_lf f4 h
set_option maxHeartbeats 4000000 in
theorem f_Ur_readValue_174 {σ σ' : am_S} {r : Int64} (h : g_Ur_readValue_174 σ = some (r, σ')) : FR [(30, 1), (30, 3)] [] σ σ' := by
  unfold g_Ur_readValue_174 at h
  obtain ⟨v4, σ4, e4, h⟩ := am_bd_some h
  have f4 : FR [(30, 1), (30, 3)] [] σ σ4 := f_Cu_number e4
  exact fr_lf f4 h
set_option maxHeartbeats 4000000 in
theorem f_Ur_readValue_200 {σ σ' : am_S} {r : Int64} (h : g_Ur_readValue_200 σ = some (r, σ')) : FR [(30, 1), (30, 3)] [] σ σ' := by
  unfold g_Ur_readValue_200 at h
  obtain ⟨v3, σ3, e3, h⟩ := am_bd_some h
  have f3 : FR [(30, 1), (30, 3)] [] σ σ3 := f_Cu_uleb e3
  exact fr_lf f3 h
set_option maxHeartbeats 4000000 in
theorem f_Ur_readValue_237 {σ σ' : am_S} {r : Int64} (h : g_Ur_readValue_237 σ = some (r, σ')) : FR [(30, 1), (30, 3)] [] σ σ' := by
  unfold g_Ur_readValue_237 at h
  obtain ⟨v4, σ4, e4, h⟩ := am_bd_some h
  have f4 : FR [(30, 1), (30, 3)] [] σ σ4 := f_Cu_number e4
  exact fr_lf f4 h
set_option maxHeartbeats 4000000 in
theorem f_Ur_readValue_0 {x1 : Int32} {x2 : Int64} {σ σ' : am_S} {r : Int64} (h : g_Ur_readValue x1 x2 σ = some (r, σ')) : FR [(30, 1), (30, 3)] [] σ σ' := by
  unfold g_Ur_readValue at h
  by_cases d2_0 : x1 = 1
  · rw [if_pos d2_0] at h
    exact f_Ur_readValue_164 h
  rw [if_neg d2_0] at h
  by_cases d2_1 : x1 = 5
  · rw [if_pos d2_1] at h
    obtain ⟨v6, σ6, e6, h⟩ := am_bd_some h
    have f6 : FR [(30, 1), (30, 3)] [] σ σ6 := f_Cu_number e6
    exact fr_lf f6 h
  rw [if_neg d2_1] at h
  by_cases d2_2 : x1 = 7
  · rw [if_pos d2_2] at h
    exact f_Ur_readValue_164 h
  rw [if_neg d2_2] at h
  by_cases d2_3 : x1 = 8
  · rw [if_pos d2_3] at h
    obtain ⟨v5, σ5, e5, h⟩ := am_bd_some h
    have f5 : FR [(30, 1), (30, 3)] [] σ σ5 := f_Cu_text e5
    exact fr_lf f5 h
  rw [if_neg d2_3] at h
  by_cases d2_4 : x1 = 11
  · rw [if_pos d2_4] at h
    exact f_Ur_readValue_174 h
  rw [if_neg d2_4] at h
  by_cases d2_5 : x1 = 13
  · rw [if_pos d2_5] at h
    obtain ⟨v5, σ5, e5, h⟩ := am_bd_some h
    have f5 : FR [(30, 1), (30, 3)] [] σ σ5 := f_Cu_sleb e5
    exact fr_lf f5 h
  rw [if_neg d2_5] at h
  by_cases d2_6 : x1 = 15
  · rw [if_pos d2_6] at h
    exact f_Ur_readValue_200 h
  rw [if_neg d2_6] at h
  by_cases d2_7 : x1 = 24
  · rw [if_pos d2_7] at h
    obtain ⟨v7, σ7, e7, h⟩ := am_bd_some h
    have f7 : FR [(30, 1), (30, 3)] [] σ σ7 := f_Cu_uleb e7
    obtain ⟨v8, σ8, e8, h⟩ := am_bd_some h
    have f8 : FR [(30, 1), (30, 3)] [] σ σ8 := fr_tr f7 (f_Cu_skip e8)
    exact fr_lf f8 h
  rw [if_neg d2_7] at h
  by_cases d2_8 : x1 = 25
  · rw [if_pos d2_8] at h
    exact fr_lf fr_rf h
  rw [if_neg d2_8] at h
  by_cases d2_9 : x1 = 27
  · rw [if_pos d2_9] at h
    exact f_Ur_readValue_200 h
  rw [if_neg d2_9] at h
  by_cases d2_10 : x1 = 33
  · rw [if_pos d2_10] at h
    exact fr_lf fr_rf h
  rw [if_neg d2_10] at h
  by_cases d2_11 : x1 = 35
  · rw [if_pos d2_11] at h
    exact f_Ur_readValue_200 h
  rw [if_neg d2_11] at h
  by_cases d2_12 : x1 = 37
  · rw [if_pos d2_12] at h
    exact f_Ur_readValue_174 h
  rw [if_neg d2_12] at h
  exact f_Ur_readValue_237 h
theorem f_Ur_readValue {x1 : Int32} {x2 : Int64} {σ σ' : am_S} {r : Int64} (h : g_Ur_readValue x1 x2 σ = some (r, σ')) : FR [(30, 1), (30, 3)] [] σ σ' := f_Ur_readValue_0 h
set_option maxHeartbeats 4000000 in
theorem f_Ur_readEntry_29 {σ σ' : am_S} {r : Int32} (h : g_Ur_readEntry_29 σ = some (r, σ')) : FR [(10, 10), (21, 5), (21, 6), (30, 1), (30, 3)] [11, 12, 13, 14, 15, 16, 19, 20] σ σ' := by
  unfold g_Ur_readEntry_29 at h
  exact fr_lf fr_rf h
set_option maxHeartbeats 4000000 in
theorem f_Ur_readEntry_74 {σ σ' : am_S} {r : Int32} (h : g_Ur_readEntry_74 σ = some (r, σ')) : FR [(10, 10), (21, 5), (21, 6), (30, 1), (30, 3)] [11, 12, 13, 14, 15, 16, 19, 20] σ σ' := by
  unfold g_Ur_readEntry_74 at h
  exact fr_lf fr_rf h
set_option maxHeartbeats 4000000 in
theorem f_Ur_readEntry_250 {y0 : Int32} {σ σ' : am_S} {r : Int32} (h : g_Ur_readEntry_250 y0 σ = some (r, σ')) : FR [(10, 10), (21, 5), (21, 6), (30, 1), (30, 3)] [11, 12, 13, 14, 15, 16, 19, 20] σ σ' := by
  unfold g_Ur_readEntry_250 at h
  obtain ⟨_, h⟩ := gd_some h
  exact fr_lf fr_rf h
set_option maxHeartbeats 4000000 in
theorem f_Ur_readEntry_249 {σ σ' : am_S} {r : Int32} (h : g_Ur_readEntry_249 σ = some (r, σ')) : FR [(10, 10), (21, 5), (21, 6), (30, 1), (30, 3)] [11, 12, 13, 14, 15, 16, 19, 20] σ σ' := by
  unfold g_Ur_readEntry_249 at h
  exact f_Ur_readEntry_250 h
set_option maxHeartbeats 4000000 in
theorem f_Ur_readEntry_226 {σ σ' : am_S} {r : Int32} (h : g_Ur_readEntry_226 σ = some (r, σ')) : FR [(10, 10), (21, 5), (21, 6), (30, 1), (30, 3)] [11, 12, 13, 14, 15, 16, 19, 20] σ σ' := by
  unfold g_Ur_readEntry_226 at h
  by_cases c4 : (σ.1.1 30 3) = 0
  · rw [if_pos c4] at h
    by_cases c8 : 16 < (σ.1.1 21 6)
    · rw [if_pos c8] at h
      exact f_Ur_readEntry_249 h
    · rw [if_neg c8] at h
      exact f_Ur_readEntry_250 h
  · rw [if_neg c4] at h
    exact f_Ur_readEntry_249 h
set_option maxHeartbeats 4000000 in
theorem f_Ur_readEntry_190 {x5 : Int32} {σ σ' : am_S} {r : Int32} (h : g_Ur_readEntry_190 x5 σ = some (r, σ')) : FR [(10, 10), (21, 5), (21, 6), (30, 1), (30, 3)] [11, 12, 13, 14, 15, 16, 19, 20] σ σ' := by
  unfold g_Ur_readEntry_190 at h
  obtain ⟨_, h⟩ := gd_some h
  by_cases c6 : (σ.2.1 25 x5.toNatClampNeg) = 0
  · rw [if_pos c6] at h
    exact f_Ur_readEntry_226 h
  · rw [if_neg c6] at h
    exact fr_tr (fr_fi (fr_fi fr_rf (List.mem_of_getElem? (i := 1) rfl)) (List.mem_of_getElem? (i := 2) rfl)) (f_Ur_readEntry_226 h)
set_option maxHeartbeats 4000000 in
theorem f_Ur_readEntry_109 : ∀ (n : Nat) {x5 : Int32} {x7 : Int32} {x8 : Int32} {σ σ' : am_S} {r : Int32} (h : g_Ur_readEntry_109 n x5 x7 x8 σ = some (r, σ')), FR [(10, 10), (21, 5), (21, 6), (30, 1), (30, 3)] [11, 12, 13, 14, 15, 16, 19, 20] σ σ' := by
  intro n
  induction n with
  | zero =>
    intro x5 x7 x8 σ σ' r h
    cases h
  | succ n ih =>
  intro x5 x7 x8 σ σ' r h
  unfold g_Ur_readEntry_109 at h
  obtain ⟨_, h⟩ := gd_some h
  by_cases c9 : x8 < (x7 + (σ.2.1 26 x5.toNatClampNeg))
  · rw [if_pos c9] at h
    by_cases c13 : (σ.1.1 30 3) = 0
    · rw [if_pos c13] at h
      obtain ⟨_, h⟩ := gd_some h
      obtain ⟨_, h⟩ := gd_some h
      obtain ⟨_, h⟩ := gd_some h
      obtain ⟨v35, σ35, e35, h⟩ := am_bd_some h
      have f35 : FR [(10, 10), (21, 5), (21, 6), (30, 1), (30, 3)] [11, 12, 13, 14, 15, 16, 19, 20] σ σ35 := fr_up (f_Ur_readValue e35) (by decide) (by decide)
      obtain ⟨v36, σ36, e36, h⟩ := am_bd_some h
      have f36 : FR [(10, 10), (21, 5), (21, 6), (30, 1), (30, 3)] [11, 12, 13, 14, 15, 16, 19, 20] σ σ36 := fr_tr f35 (fr_up (f_En_keep e36) (by decide) (by decide))
      exact fr_tr f36 (ih h)
    · rw [if_neg c13] at h
      exact f_Ur_readEntry_190 h
  · rw [if_neg c9] at h
    exact f_Ur_readEntry_190 h
set_option maxHeartbeats 4000000 in
theorem f_Ur_readEntry_76 {x3 : Int32} {x5 : Int32} {σ σ' : am_S} {r : Int32} (h : g_Ur_readEntry_76 x3 x5 σ = some (r, σ')) : FR [(10, 10), (21, 5), (21, 6), (30, 1), (30, 3)] [11, 12, 13, 14, 15, 16, 19, 20] σ σ' := by
  unfold g_Ur_readEntry_76 at h
  obtain ⟨_, h⟩ := gd_some h
  obtain ⟨v11, σ11, e11, h⟩ := am_bd_some h
  have f11 : FR [(10, 10), (21, 5), (21, 6), (30, 1), (30, 3)] [11, 12, 13, 14, 15, 16, 19, 20] σ σ11 := fr_up (f_En_add e11) (by decide) (by decide)
  exact fr_tr f11 (f_Ur_readEntry_109 4000 h)
set_option maxHeartbeats 4000000 in
theorem f_Ur_readEntry_53 {x3 : Int32} {x4 : Int32} {x5 : Int32} {y0 : Int32} {σ σ' : am_S} {r : Int32} (h : g_Ur_readEntry_53 x3 x4 x5 y0 σ = some (r, σ')) : FR [(10, 10), (21, 5), (21, 6), (30, 1), (30, 3)] [11, 12, 13, 14, 15, 16, 19, 20] σ σ' := by
  unfold g_Ur_readEntry_53 at h
  by_cases c4 : y0 = x4
  · rw [if_pos c4] at h
    by_cases c6 : x4 = 0
    · rw [if_pos c6] at h
      by_cases c9 : (σ.1.1 21 6) = 0
      · rw [if_pos c9] at h
        exact f_Ur_readEntry_74 h
      · rw [if_neg c9] at h
        exact f_Ur_readEntry_76 h
    · rw [if_neg c6] at h
      exact f_Ur_readEntry_76 h
  · rw [if_neg c4] at h
    exact f_Ur_readEntry_74 h
set_option maxHeartbeats 4000000 in
theorem f_Ur_readEntry_0 {x1 : Int64} {x3 : Int32} {x4 : Int32} {σ σ' : am_S} {r : Int32} (h : g_Ur_readEntry x1 x3 x4 σ = some (r, σ')) : FR [(10, 10), (21, 5), (21, 6), (30, 1), (30, 3)] [11, 12, 13, 14, 15, 16, 19, 20] σ σ' := by
  unfold g_Ur_readEntry at h
  obtain ⟨v4, σ4, e4, h⟩ := am_bd_some h
  have f4 : FR [(10, 10), (21, 5), (21, 6), (30, 1), (30, 3)] [11, 12, 13, 14, 15, 16, 19, 20] σ σ4 := fr_up (f_Ab_withNumber e4) (fun _ h9 => (by cases h9)) (fun _ h9 => (by cases h9))
  by_cases c8 : v4 = (-1)
  · rw [if_pos c8] at h
    exact fr_tr f4 (f_Ur_readEntry_29 h)
  · rw [if_neg c8] at h
    by_cases c13 : (σ4.1.1 10 10) = 200
    · rw [if_pos c13] at h
      exact fr_tr f4 (f_Ur_readEntry_29 h)
    · rw [if_neg c13] at h
      obtain ⟨_, h⟩ := gd_some h
      by_cases c21 : (lg_cmp (σ4.2.2 24 v4.toNatClampNeg) 17) = 0
      · rw [if_pos c21] at h
        exact fr_tr f4 (f_Ur_readEntry_53 h)
      · rw [if_neg c21] at h
        exact fr_tr f4 (f_Ur_readEntry_53 h)
theorem f_Ur_readEntry {x1 : Int64} {x3 : Int32} {x4 : Int32} {σ σ' : am_S} {r : Int32} (h : g_Ur_readEntry x1 x3 x4 σ = some (r, σ')) : FR [(10, 10), (21, 5), (21, 6), (30, 1), (30, 3)] [11, 12, 13, 14, 15, 16, 19, 20] σ σ' := f_Ur_readEntry_0 h
set_option maxHeartbeats 4000000 in
theorem f_Ur_readEntries_110 {x1 : Int32} {x2 : Int32} {y0 : Int32} {σ σ' : am_S} {r : Int32} {go : Int32 → Int32 → am_S → Option (Int32 × am_S)} (hgo : ∀ {x1 : Int32} {x2 : Int32} {σ σ' : am_S} {r : Int32}, go x1 x2 σ = some (r, σ') → FR [(10, 10), (21, 5), (21, 6), (30, 1), (30, 3)] [11, 12, 13, 14, 15, 16, 19, 20] σ σ') (h : g_Ur_readEntries_110 go x1 x2 y0 σ = some (r, σ')) : FR [(10, 10), (21, 5), (21, 6), (30, 1), (30, 3)] [11, 12, 13, 14, 15, 16, 19, 20] σ σ' := by
  unfold g_Ur_readEntries_110 at h
  by_cases c3 : y0 = 0
  · rw [if_pos c3] at h
    exact fr_lf fr_rf h
  · rw [if_neg c3] at h
    exact hgo h
set_option maxHeartbeats 4000000 in
theorem f_Ur_readEntries_107 {x1 : Int32} {x2 : Int32} {y0 : Int32} {y1 : Int32} {y2 : Int64} {σ σ' : am_S} {r : Int32} {go : Int32 → Int32 → am_S → Option (Int32 × am_S)} (hgo : ∀ {x1 : Int32} {x2 : Int32} {σ σ' : am_S} {r : Int32}, go x1 x2 σ = some (r, σ') → FR [(10, 10), (21, 5), (21, 6), (30, 1), (30, 3)] [11, 12, 13, 14, 15, 16, 19, 20] σ σ') (h : g_Ur_readEntries_107 go x1 x2 y0 y1 y2 σ = some (r, σ')) : FR [(10, 10), (21, 5), (21, 6), (30, 1), (30, 3)] [11, 12, 13, 14, 15, 16, 19, 20] σ σ' := by
  unfold g_Ur_readEntries_107 at h
  obtain ⟨v1, σ1, e1, h⟩ := am_bd_some h
  have f1 : FR [(10, 10), (21, 5), (21, 6), (30, 1), (30, 3)] [11, 12, 13, 14, 15, 16, 19, 20] σ σ1 := f_Ur_readEntry e1
  exact fr_tr f1 (f_Ur_readEntries_110 hgo h)
set_option maxHeartbeats 4000000 in
theorem f_Ur_readEntries_148 {y0 : Int32} {σ σ' : am_S} {r : Int32} (h : g_Ur_readEntries_148 y0 σ = some (r, σ')) : FR [(10, 10), (21, 5), (21, 6), (30, 1), (30, 3)] [11, 12, 13, 14, 15, 16, 19, 20] σ σ' := by
  unfold g_Ur_readEntries_148 at h
  obtain ⟨_, h⟩ := gd_some h
  exact fr_lf fr_rf h
set_option maxHeartbeats 4000000 in
theorem f_Ur_readEntries_147 {σ σ' : am_S} {r : Int32} (h : g_Ur_readEntries_147 σ = some (r, σ')) : FR [(10, 10), (21, 5), (21, 6), (30, 1), (30, 3)] [11, 12, 13, 14, 15, 16, 19, 20] σ σ' := by
  unfold g_Ur_readEntries_147 at h
  exact f_Ur_readEntries_148 h
set_option maxHeartbeats 4000000 in
theorem f_Ur_readEntries_125 {x1 : Int32} {σ σ' : am_S} {r : Int32} (h : g_Ur_readEntries_125 x1 σ = some (r, σ')) : FR [(10, 10), (21, 5), (21, 6), (30, 1), (30, 3)] [11, 12, 13, 14, 15, 16, 19, 20] σ σ' := by
  unfold g_Ur_readEntries_125 at h
  by_cases c3 : (σ.1.1 21 6) = 0
  · rw [if_pos c3] at h
    by_cases c8 : x1 < (σ.1.1 10 10)
    · rw [if_pos c8] at h
      exact f_Ur_readEntries_148 h
    · rw [if_neg c8] at h
      exact f_Ur_readEntries_147 h
  · rw [if_neg c3] at h
    exact f_Ur_readEntries_147 h
set_option maxHeartbeats 4000000 in
theorem f_Ur_readEntries_20 : ∀ (n : Nat) {x1 : Int32} {x2 : Int32} {σ σ' : am_S} {r : Int32} (h : g_Ur_readEntries_20 n x1 x2 σ = some (r, σ')), FR [(10, 10), (21, 5), (21, 6), (30, 1), (30, 3)] [11, 12, 13, 14, 15, 16, 19, 20] σ σ' := by
  intro n
  induction n with
  | zero =>
    intro x1 x2 σ σ' r h
    cases h
  | succ n ih =>
  intro x1 x2 σ σ' r h
  unfold g_Ur_readEntries_20 at h
  by_cases c3 : x2 < 3000
  · rw [if_pos c3] at h
    by_cases c10 : (σ.1.1 30 1) < (σ.1.1 30 2)
    · rw [if_pos c10] at h
      obtain ⟨v17, σ17, e17, h⟩ := am_bd_some h
      have f17 : FR [(10, 10), (21, 5), (21, 6), (30, 1), (30, 3)] [11, 12, 13, 14, 15, 16, 19, 20] σ σ17 := fr_up (f_Cu_uleb e17) (by decide) (by decide)
      by_cases c22 : (σ17.1.1 30 3) = 0
      · rw [if_pos c22] at h
        by_cases c26 : (lg_cmp v17 0) = 0
        · rw [if_pos c26] at h
          obtain ⟨v28, σ28, e28, h⟩ := am_bd_some h
          have f28 : FR [(10, 10), (21, 5), (21, 6), (30, 1), (30, 3)] [11, 12, 13, 14, 15, 16, 19, 20] σ σ28 := fr_tr f17 (fr_up (f_Ur_endChildren e28) (by decide) (by decide))
          exact fr_tr f28 (f_Ur_readEntries_110 (fun h => ih h) h)
        · rw [if_neg c26] at h
          by_cases c34 : (σ17.1.1 10 10) = x1
          · rw [if_pos c34] at h
            exact fr_tr f17 (f_Ur_readEntries_107 (fun h => ih h) h)
          · rw [if_neg c34] at h
            exact fr_tr f17 (f_Ur_readEntries_107 (fun h => ih h) h)
      · rw [if_neg c22] at h
        exact fr_lf f17 h
    · rw [if_neg c10] at h
      exact f_Ur_readEntries_125 h
  · rw [if_neg c3] at h
    exact f_Ur_readEntries_125 h
set_option maxHeartbeats 4000000 in
theorem f_Ur_readEntries_0 {σ σ' : am_S} {r : Int32} (h : g_Ur_readEntries σ = some (r, σ')) : FR [(10, 10), (21, 5), (21, 6), (30, 1), (30, 3)] [11, 12, 13, 14, 15, 16, 19, 20] σ σ' := by
  unfold g_Ur_readEntries at h
  exact fr_tr (fr_fi (fr_fi fr_rf (List.mem_of_getElem? (i := 1) rfl)) (List.mem_of_getElem? (i := 2) rfl)) (f_Ur_readEntries_20 4000 h)
theorem f_Ur_readEntries {σ σ' : am_S} {r : Int32} (h : g_Ur_readEntries σ = some (r, σ')) : FR [(10, 10), (21, 5), (21, 6), (30, 1), (30, 3)] [11, 12, 13, 14, 15, 16, 19, 20] σ σ' := f_Ur_readEntries_0 h
set_option maxHeartbeats 4000000 in
theorem f_Ur_read_65 {σ σ' : am_S} {r : Int32} (h : g_Ur_read_65 σ = some (r, σ')) : FR [(10, 10), (10, 11), (21, 5), (21, 6), (22, 7), (30, 1), (30, 2), (30, 3), (31, 1), (31, 2), (31, 3)] [11, 12, 13, 14, 15, 16, 17, 18, 19, 20, 23, 24, 25, 26, 27, 28, 29] σ σ' := by
  unfold g_Ur_read_65 at h
  exact fr_lf fr_rf h
set_option maxHeartbeats 4000000 in
theorem f_Ur_read_81 {σ σ' : am_S} {r : Int32} (h : g_Ur_read_81 σ = some (r, σ')) : FR [(10, 10), (10, 11), (21, 5), (21, 6), (22, 7), (30, 1), (30, 2), (30, 3), (31, 1), (31, 2), (31, 3)] [11, 12, 13, 14, 15, 16, 17, 18, 19, 20, 23, 24, 25, 26, 27, 28, 29] σ σ' := by
  unfold g_Ur_read_81 at h
  exact fr_lf fr_rf h
set_option maxHeartbeats 4000000 in
theorem f_Ur_read_30 : ∀ (n : Nat) {x1 : Int32} {x2 : Int32} {σ σ' : am_S} {r : Int32} (h : g_Ur_read_30 n x1 x2 σ = some (r, σ')), FR [(10, 10), (10, 11), (21, 5), (21, 6), (22, 7), (30, 1), (30, 2), (30, 3), (31, 1), (31, 2), (31, 3)] [11, 12, 13, 14, 15, 16, 17, 18, 19, 20, 23, 24, 25, 26, 27, 28, 29] σ σ' := by
  intro n
  induction n with
  | zero =>
    intro x1 x2 σ σ' r h
    cases h
  | succ n ih =>
  intro x1 x2 σ σ' r h
  unfold g_Ur_read_30 at h
  by_cases c3 : 4 < x2
  · rw [if_pos c3] at h
    exact f_Ur_read_81 h
  · rw [if_neg c3] at h
    by_cases c8 : (σ.1.1 30 1) < x1
    · rw [if_pos c8] at h
      by_cases c11 : x2 = 4
      · rw [if_pos c11] at h
        exact f_Ur_read_65 h
      · rw [if_neg c11] at h
        obtain ⟨v13, σ13, e13, h⟩ := am_bd_some h
        have f13 : FR [(10, 10), (10, 11), (21, 5), (21, 6), (22, 7), (30, 1), (30, 2), (30, 3), (31, 1), (31, 2), (31, 3)] [11, 12, 13, 14, 15, 16, 17, 18, 19, 20, 23, 24, 25, 26, 27, 28, 29] σ σ13 := fr_up (f_Ur_readHead e13) (by decide) (by decide)
        by_cases c14 : v13 = 0
        · rw [if_pos c14] at h
          exact fr_tr f13 (f_Ur_read_65 h)
        · rw [if_neg c14] at h
          obtain ⟨v16, σ16, e16, h⟩ := am_bd_some h
          have f16 : FR [(10, 10), (10, 11), (21, 5), (21, 6), (22, 7), (30, 1), (30, 2), (30, 3), (31, 1), (31, 2), (31, 3)] [11, 12, 13, 14, 15, 16, 17, 18, 19, 20, 23, 24, 25, 26, 27, 28, 29] σ σ16 := fr_tr f13 (fr_up (f_Ur_readEntries e16) (by decide) (by decide))
          by_cases c17 : v16 = 0
          · rw [if_pos c17] at h
            exact fr_tr f16 (f_Ur_read_65 h)
          · rw [if_neg c17] at h
            exact fr_tr (fr_fi f16 (List.mem_of_getElem? (i := 6) rfl)) (ih h)
    · rw [if_neg c8] at h
      exact f_Ur_read_81 h
set_option maxHeartbeats 4000000 in
theorem f_Ur_read_0 {σ σ' : am_S} {r : Int32} (h : g_Ur_read σ = some (r, σ')) : FR [(10, 10), (10, 11), (21, 5), (21, 6), (22, 7), (30, 1), (30, 2), (30, 3), (31, 1), (31, 2), (31, 3)] [11, 12, 13, 14, 15, 16, 17, 18, 19, 20, 23, 24, 25, 26, 27, 28, 29] σ σ' := by
  unfold g_Ur_read at h
  obtain ⟨v3, σ3, e3, h⟩ := am_bd_some h
  have f3 : FR [(10, 10), (10, 11), (21, 5), (21, 6), (22, 7), (30, 1), (30, 2), (30, 3), (31, 1), (31, 2), (31, 3)] [11, 12, 13, 14, 15, 16, 17, 18, 19, 20, 23, 24, 25, 26, 27, 28, 29] σ σ3 := fr_up (f_En_forgetAll e3) (by decide) (by decide)
  obtain ⟨v10, σ10, e10, h⟩ := am_bd_some h
  have f10 : FR [(10, 10), (10, 11), (21, 5), (21, 6), (22, 7), (30, 1), (30, 2), (30, 3), (31, 1), (31, 2), (31, 3)] [11, 12, 13, 14, 15, 16, 17, 18, 19, 20, 23, 24, 25, 26, 27, 28, 29] σ σ10 := fr_tr f3 (fr_up (f_Se_point e10) (by decide) (by decide))
  exact fr_tr f10 (f_Ur_read_30 4000 h)
theorem f_Ur_read {σ σ' : am_S} {r : Int32} (h : g_Ur_read σ = some (r, σ')) : FR [(10, 10), (10, 11), (21, 5), (21, 6), (22, 7), (30, 1), (30, 2), (30, 3), (31, 1), (31, 2), (31, 3)] [11, 12, 13, 14, 15, 16, 17, 18, 19, 20, 23, 24, 25, 26, 27, 28, 29] σ σ' := f_Ur_read_0 h
set_option maxHeartbeats 4000000 in
theorem f_Ra_begin_0 {x1 : Int32} {σ σ' : am_S} {r : Unit} (h : g_Ra_begin x1 σ = some (r, σ')) : FR [] [35] σ σ' := by
  unfold g_Ra_begin at h
  obtain ⟨_, h⟩ := gd_some h
  exact fr_lf (fr_ai fr_rf (List.mem_of_getElem? (i := 0) rfl)) h
theorem f_Ra_begin {x1 : Int32} {σ σ' : am_S} {r : Unit} (h : g_Ra_begin x1 σ = some (r, σ')) : FR [] [35] σ σ' := f_Ra_begin_0 h
set_option maxHeartbeats 4000000 in
theorem f_Ra_end_0 {x1 : Int32} {σ σ' : am_S} {r : Unit} (h : g_Ra_end x1 σ = some (r, σ')) : FR [] [36] σ σ' := by
  unfold g_Ra_end at h
  obtain ⟨_, h⟩ := gd_some h
  exact fr_lf (fr_ai fr_rf (List.mem_of_getElem? (i := 0) rfl)) h
theorem f_Ra_end {x1 : Int32} {σ σ' : am_S} {r : Unit} (h : g_Ra_end x1 σ = some (r, σ')) : FR [] [36] σ σ' := f_Ra_end_0 h
