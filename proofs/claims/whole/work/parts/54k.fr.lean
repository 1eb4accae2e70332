set_option maxHeartbeats 4000000 in
theorem f_Mo_isRight_287 {x1 : Int32} {x3 : Int32} {y0 : Int32} {σ σ' : am_S} {r : Int32} {go : Int32 → Int32 → Int32 → am_S → Option (Int32 × am_S)} (hgo : ∀ {x1 : Int32} {x2 : Int32} {x3 : Int32} {σ σ' : am_S} {r : Int32}, go x1 x2 x3 σ = some (r, σ') → FR [(0, 37)] [] σ σ') (h : g_Mo_isRight_287 go x1 x3 y0 σ = some (r, σ')) : FR [(0, 37)] [] σ σ' := by
  unfold g_Mo_isRight_287 at h
  exact hgo h
set_option maxHeartbeats 4000000 in
theorem f_Mo_isRight_282 {x1 : Int32} {x3 : Int32} {σ σ' : am_S} {r : Int32} {go : Int32 → Int32 → Int32 → am_S → Option (Int32 × am_S)} (hgo : ∀ {x1 : Int32} {x2 : Int32} {x3 : Int32} {σ σ' : am_S} {r : Int32}, go x1 x2 x3 σ = some (r, σ') → FR [(0, 37)] [] σ σ') (h : g_Mo_isRight_282 go x1 x3 σ = some (r, σ')) : FR [(0, 37)] [] σ σ' := by
  unfold g_Mo_isRight_282 at h
  exact f_Mo_isRight_287 hgo h
set_option maxHeartbeats 4000000 in
theorem f_Mo_isRight_286 {x1 : Int32} {x3 : Int32} {σ σ' : am_S} {r : Int32} {go : Int32 → Int32 → Int32 → am_S → Option (Int32 × am_S)} (hgo : ∀ {x1 : Int32} {x2 : Int32} {x3 : Int32} {σ σ' : am_S} {r : Int32}, go x1 x2 x3 σ = some (r, σ') → FR [(0, 37)] [] σ σ') (h : g_Mo_isRight_286 go x1 x3 σ = some (r, σ')) : FR [(0, 37)] [] σ σ' := by
  unfold g_Mo_isRight_286 at h
  exact f_Mo_isRight_287 hgo h
set_option maxHeartbeats 4000000 in
theorem f_Mo_isRight_294 {x2 : Int32} {σ σ' : am_S} {r : Int32} (h : g_Mo_isRight_294 x2 σ = some (r, σ')) : FR [(0, 37)] [] σ σ' := by
  unfold g_Mo_isRight_294 at h
  obtain ⟨_, h⟩ := gd_some h
  exact fr_lf fr_rf h
set_option maxHeartbeats 4000000 in
theorem f_Mo_isRight_241 : ∀ (n : Nat) {x1 : Int32} {x2 : Int32} {x3 : Int32} {σ σ' : am_S} {r : Int32} (h : g_Mo_isRight_241 n x1 x2 x3 σ = some (r, σ')), FR [(0, 37)] [] σ σ' := by
  intro n
  induction n with
  | zero =>
    intro x1 x2 x3 σ σ' r h
    cases h
  | succ n ih =>
  intro x1 x2 x3 σ σ' r h
  unfold g_Mo_isRight_241 at h
  by_cases c3 : x3 < 11
  · rw [if_pos c3] at h
    obtain ⟨_, h⟩ := gd_some h
    by_cases c9 : (σ.2.1 17 x1.toNatClampNeg) = 17
    · rw [if_pos c9] at h
      by_cases c11 : x2 = 0
      · rw [if_pos c11] at h
        exact f_Mo_isRight_286 (fun h => ih h) h
      · rw [if_neg c11] at h
        obtain ⟨v15, σ15, e15, h⟩ := am_bd_some h
        have f15 : FR [(0, 37)] [] σ σ15 := fr_up (f_Mo_has e15) (fun _ h9 => (by cases h9)) (fun _ h9 => (by cases h9))
        by_cases c16 : v15 = 0
        · rw [if_pos c16] at h
          exact fr_tr f15 (f_Mo_isRight_282 (fun h => ih h) h)
        · rw [if_neg c16] at h
          obtain ⟨v20, σ20, e20, h⟩ := am_bd_some h
          have f20 : FR [(0, 37)] [] σ σ20 := fr_tr f15 (fr_up (f_Mo_formAt e20) (fun _ h9 => (by cases h9)) (fun _ h9 => (by cases h9)))
          by_cases c22 : v20 = 23
          · rw [if_pos c22] at h
            exact fr_tr f20 (f_Mo_isRight_282 (fun h => ih h) h)
          · rw [if_neg c22] at h
            exact fr_tr f20 (f_Mo_isRight_286 (fun h => ih h) h)
    · rw [if_neg c9] at h
      exact f_Mo_isRight_294 h
  · rw [if_neg c3] at h
    exact f_Mo_isRight_294 h
set_option maxHeartbeats 4000000 in
theorem f_Mo_isRight_237 {x1 : Int32} {y0 : Int32} {σ σ' : am_S} {r : Int32} (h : g_Mo_isRight_237 x1 y0 σ = some (r, σ')) : FR [(0, 37)] [] σ σ' := by
  unfold g_Mo_isRight_237 at h
  exact f_Mo_isRight_241 4000 h
set_option maxHeartbeats 4000000 in
theorem f_Mo_isRight_232 {x1 : Int32} {σ σ' : am_S} {r : Int32} (h : g_Mo_isRight_232 x1 σ = some (r, σ')) : FR [(0, 37)] [] σ σ' := by
  unfold g_Mo_isRight_232 at h
  exact f_Mo_isRight_237 h
set_option maxHeartbeats 4000000 in
theorem f_Mo_isRight_236 {x1 : Int32} {σ σ' : am_S} {r : Int32} (h : g_Mo_isRight_236 x1 σ = some (r, σ')) : FR [(0, 37)] [] σ σ' := by
  unfold g_Mo_isRight_236 at h
  exact f_Mo_isRight_237 h
set_option maxHeartbeats 4000000 in
theorem f_Mo_isRight_209 {x1 : Int32} {σ σ' : am_S} {r : Int32} (h : g_Mo_isRight_209 x1 σ = some (r, σ')) : FR [(0, 37)] [] σ σ' := by
  unfold g_Mo_isRight_209 at h
  obtain ⟨v4, σ4, e4, h⟩ := am_bd_some h
  have f4 : FR [(0, 37)] [] σ σ4 := fr_up (f_Mo_has e4) (fun _ h9 => (by cases h9)) (fun _ h9 => (by cases h9))
  by_cases c5 : v4 = 0
  · rw [if_pos c5] at h
    exact fr_tr f4 (f_Mo_isRight_232 h)
  · rw [if_neg c5] at h
    obtain ⟨v9, σ9, e9, h⟩ := am_bd_some h
    have f9 : FR [(0, 37)] [] σ σ9 := fr_tr f4 (fr_up (f_Mo_formAt e9) (fun _ h9 => (by cases h9)) (fun _ h9 => (by cases h9)))
    obtain ⟨v10, σ10, e10, h⟩ := am_bd_some h
    have f10 : FR [(0, 37)] [] σ σ10 := fr_tr f9 (fr_up (f_Mo_isConstant e10) (fun _ h9 => (by cases h9)) (fun _ h9 => (by cases h9)))
    by_cases c11 : v10 = 0
    · rw [if_pos c11] at h
      exact fr_tr f10 (f_Mo_isRight_236 h)
    · rw [if_neg c11] at h
      exact fr_tr f10 (f_Mo_isRight_232 h)
set_option maxHeartbeats 4000000 in
theorem f_Mo_isRight_183 {x1 : Int32} {y0 : Int32} {σ σ' : am_S} {r : Int32} (h : g_Mo_isRight_183 x1 y0 σ = some (r, σ')) : FR [(0, 37)] [] σ σ' := by
  unfold g_Mo_isRight_183 at h
  by_cases c3 : y0 = 0
  · rw [if_pos c3] at h
    exact f_Mo_isRight_236 h
  · rw [if_neg c3] at h
    obtain ⟨v7, σ7, e7, h⟩ := am_bd_some h
    have f7 : FR [(0, 37)] [] σ σ7 := fr_up (f_Mo_has e7) (fun _ h9 => (by cases h9)) (fun _ h9 => (by cases h9))
    by_cases c8 : v7 = 0
    · rw [if_pos c8] at h
      exact fr_tr f7 (f_Mo_isRight_209 h)
    · rw [if_neg c8] at h
      obtain ⟨v12, σ12, e12, h⟩ := am_bd_some h
      have f12 : FR [(0, 37)] [] σ σ12 := fr_tr f7 (fr_up (f_Mo_formAt e12) (fun _ h9 => (by cases h9)) (fun _ h9 => (by cases h9)))
      obtain ⟨v13, σ13, e13, h⟩ := am_bd_some h
      have f13 : FR [(0, 37)] [] σ σ13 := fr_tr f12 (fr_up (f_Mo_isConstant e13) (fun _ h9 => (by cases h9)) (fun _ h9 => (by cases h9)))
      by_cases c14 : v13 = 0
      · rw [if_pos c14] at h
        exact fr_tr f13 (f_Mo_isRight_236 h)
      · rw [if_neg c14] at h
        exact fr_tr f13 (f_Mo_isRight_209 h)
set_option maxHeartbeats 4000000 in
theorem f_Mo_isRight_178 {x1 : Int32} {σ σ' : am_S} {r : Int32} (h : g_Mo_isRight_178 x1 σ = some (r, σ')) : FR [(0, 37)] [] σ σ' := by
  unfold g_Mo_isRight_178 at h
  exact f_Mo_isRight_183 h
set_option maxHeartbeats 4000000 in
theorem f_Mo_isRight_182 {x1 : Int32} {σ σ' : am_S} {r : Int32} (h : g_Mo_isRight_182 x1 σ = some (r, σ')) : FR [(0, 37)] [] σ σ' := by
  unfold g_Mo_isRight_182 at h
  exact f_Mo_isRight_183 h
set_option maxHeartbeats 4000000 in
theorem f_Mo_isRight_156 {x1 : Int32} {y0 : Int32} {σ σ' : am_S} {r : Int32} (h : g_Mo_isRight_156 x1 y0 σ = some (r, σ')) : FR [(0, 37)] [] σ σ' := by
  unfold g_Mo_isRight_156 at h
  by_cases c3 : y0 = 0
  · rw [if_pos c3] at h
    exact f_Mo_isRight_182 h
  · rw [if_neg c3] at h
    obtain ⟨v7, σ7, e7, h⟩ := am_bd_some h
    have f7 : FR [(0, 37)] [] σ σ7 := fr_up (f_Mo_has e7) (fun _ h9 => (by cases h9)) (fun _ h9 => (by cases h9))
    by_cases c8 : v7 = 0
    · rw [if_pos c8] at h
      exact fr_tr f7 (f_Mo_isRight_178 h)
    · rw [if_neg c8] at h
      obtain ⟨v11, σ11, e11, h⟩ := am_bd_some h
      have f11 : FR [(0, 37)] [] σ σ11 := fr_tr f7 (fr_up (f_Mo_isOrigin e11) (fun _ h9 => (by cases h9)) (fun _ h9 => (by cases h9)))
      by_cases c12 : v11 = 0
      · rw [if_pos c12] at h
        exact fr_tr f11 (f_Mo_isRight_182 h)
      · rw [if_neg c12] at h
        exact fr_tr f11 (f_Mo_isRight_178 h)
set_option maxHeartbeats 4000000 in
theorem f_Mo_isRight_151 {x1 : Int32} {σ σ' : am_S} {r : Int32} (h : g_Mo_isRight_151 x1 σ = some (r, σ')) : FR [(0, 37)] [] σ σ' := by
  unfold g_Mo_isRight_151 at h
  exact f_Mo_isRight_156 h
set_option maxHeartbeats 4000000 in
theorem f_Mo_isRight_155 {x1 : Int32} {σ σ' : am_S} {r : Int32} (h : g_Mo_isRight_155 x1 σ = some (r, σ')) : FR [(0, 37)] [] σ σ' := by
  unfold g_Mo_isRight_155 at h
  exact f_Mo_isRight_156 h
set_option maxHeartbeats 4000000 in
theorem f_Mo_isRight_115 {x1 : Int32} {y0 : Int32} {σ σ' : am_S} {r : Int32} (h : g_Mo_isRight_115 x1 y0 σ = some (r, σ')) : FR [(0, 37)] [] σ σ' := by
  unfold g_Mo_isRight_115 at h
  by_cases c3 : y0 = 0
  · rw [if_pos c3] at h
    exact f_Mo_isRight_155 h
  · rw [if_neg c3] at h
    obtain ⟨v7, σ7, e7, h⟩ := am_bd_some h
    have f7 : FR [(0, 37)] [] σ σ7 := fr_up (f_Mo_has e7) (fun _ h9 => (by cases h9)) (fun _ h9 => (by cases h9))
    by_cases c8 : v7 = 0
    · rw [if_pos c8] at h
      exact fr_tr f7 (f_Mo_isRight_151 h)
    · rw [if_neg c8] at h
      obtain ⟨v12, σ12, e12, h⟩ := am_bd_some h
      have f12 : FR [(0, 37)] [] σ σ12 := fr_tr f7 (fr_up (f_Mo_formAt e12) (fun _ h9 => (by cases h9)) (fun _ h9 => (by cases h9)))
      by_cases c14 : v12 = 23
      · rw [if_pos c14] at h
        exact fr_tr f12 (f_Mo_isRight_151 h)
      · rw [if_neg c14] at h
        obtain ⟨v18, σ18, e18, h⟩ := am_bd_some h
        have f18 : FR [(0, 37)] [] σ σ18 := fr_tr f12 (fr_up (f_Mo_formAt e18) (fun _ h9 => (by cases h9)) (fun _ h9 => (by cases h9)))
        by_cases c20 : v18 = 35
        · rw [if_pos c20] at h
          exact fr_tr f18 (f_Mo_isRight_151 h)
        · rw [if_neg c20] at h
          exact fr_tr f18 (f_Mo_isRight_155 h)
set_option maxHeartbeats 4000000 in
theorem f_Mo_isRight_110 {x1 : Int32} {σ σ' : am_S} {r : Int32} (h : g_Mo_isRight_110 x1 σ = some (r, σ')) : FR [(0, 37)] [] σ σ' := by
  unfold g_Mo_isRight_110 at h
  exact f_Mo_isRight_115 h
set_option maxHeartbeats 4000000 in
theorem f_Mo_isRight_114 {x1 : Int32} {σ σ' : am_S} {r : Int32} (h : g_Mo_isRight_114 x1 σ = some (r, σ')) : FR [(0, 37)] [] σ σ' := by
  unfold g_Mo_isRight_114 at h
  exact f_Mo_isRight_115 h
set_option maxHeartbeats 4000000 in
theorem f_Mo_isRight_63 {x1 : Int32} {y0 : Int32} {σ σ' : am_S} {r : Int32} (h : g_Mo_isRight_63 x1 y0 σ = some (r, σ')) : FR [(0, 37)] [] σ σ' := by
  unfold g_Mo_isRight_63 at h
  by_cases c3 : y0 = 0
  · rw [if_pos c3] at h
    exact f_Mo_isRight_114 h
  · rw [if_neg c3] at h
    obtain ⟨v7, σ7, e7, h⟩ := am_bd_some h
    have f7 : FR [(0, 37)] [] σ σ7 := fr_up (f_Mo_has e7) (fun _ h9 => (by cases h9)) (fun _ h9 => (by cases h9))
    by_cases c8 : v7 = 0
    · rw [if_pos c8] at h
      exact fr_tr f7 (f_Mo_isRight_110 h)
    · rw [if_neg c8] at h
      obtain ⟨v12, σ12, e12, h⟩ := am_bd_some h
      have f12 : FR [(0, 37)] [] σ σ12 := fr_tr f7 (fr_up (f_Mo_formAt e12) (fun _ h9 => (by cases h9)) (fun _ h9 => (by cases h9)))
      obtain ⟨v13, σ13, e13, h⟩ := am_bd_some h
      have f13 : FR [(0, 37)] [] σ σ13 := fr_tr f12 (fr_up (f_Mo_isConstant e13) (fun _ h9 => (by cases h9)) (fun _ h9 => (by cases h9)))
      by_cases c14 : v13 = 0
      · rw [if_pos c14] at h
        obtain ⟨v18, σ18, e18, h⟩ := am_bd_some h
        have f18 : FR [(0, 37)] [] σ σ18 := fr_tr f13 (fr_up (f_Mo_formAt e18) (fun _ h9 => (by cases h9)) (fun _ h9 => (by cases h9)))
        obtain ⟨v19, σ19, e19, h⟩ := am_bd_some h
        have f19 : FR [(0, 37)] [] σ σ19 := fr_tr f18 (fr_up (f_Mo_isAddress e19) (fun _ h9 => (by cases h9)) (fun _ h9 => (by cases h9)))
        by_cases c20 : v19 = 0
        · rw [if_pos c20] at h
          exact fr_tr f19 (f_Mo_isRight_114 h)
        · rw [if_neg c20] at h
          obtain ⟨v24, σ24, e24, h⟩ := am_bd_some h
          have f24 : FR [(0, 37)] [] σ σ24 := fr_tr f19 (f_Mo_address e24)
          by_cases c25 : v24 = 0
          · rw [if_pos c25] at h
            exact fr_tr f24 (f_Mo_isRight_114 h)
          · rw [if_neg c25] at h
            exact fr_tr f24 (f_Mo_isRight_110 h)
      · rw [if_neg c14] at h
        exact fr_tr f13 (f_Mo_isRight_110 h)
set_option maxHeartbeats 4000000 in
theorem f_Mo_isRight_58 {x1 : Int32} {σ σ' : am_S} {r : Int32} (h : g_Mo_isRight_58 x1 σ = some (r, σ')) : FR [(0, 37)] [] σ σ' := by
  unfold g_Mo_isRight_58 at h
  exact f_Mo_isRight_63 h
set_option maxHeartbeats 4000000 in
theorem f_Mo_isRight_62 {x1 : Int32} {σ σ' : am_S} {r : Int32} (h : g_Mo_isRight_62 x1 σ = some (r, σ')) : FR [(0, 37)] [] σ σ' := by
  unfold g_Mo_isRight_62 at h
  exact f_Mo_isRight_63 h
set_option maxHeartbeats 4000000 in
theorem f_Mo_isRight_23 {x1 : Int32} {y0 : Int32} {σ σ' : am_S} {r : Int32} (h : g_Mo_isRight_23 x1 y0 σ = some (r, σ')) : FR [(0, 37)] [] σ σ' := by
  unfold g_Mo_isRight_23 at h
  by_cases c3 : y0 = 0
  · rw [if_pos c3] at h
    exact f_Mo_isRight_62 h
  · rw [if_neg c3] at h
    obtain ⟨v7, σ7, e7, h⟩ := am_bd_some h
    have f7 : FR [(0, 37)] [] σ σ7 := fr_up (f_Mo_has e7) (fun _ h9 => (by cases h9)) (fun _ h9 => (by cases h9))
    by_cases c8 : v7 = 0
    · rw [if_pos c8] at h
      exact fr_tr f7 (f_Mo_isRight_58 h)
    · rw [if_neg c8] at h
      obtain ⟨v12, σ12, e12, h⟩ := am_bd_some h
      have f12 : FR [(0, 37)] [] σ σ12 := fr_tr f7 (fr_up (f_Mo_formAt e12) (fun _ h9 => (by cases h9)) (fun _ h9 => (by cases h9)))
      obtain ⟨v13, σ13, e13, h⟩ := am_bd_some h
      have f13 : FR [(0, 37)] [] σ σ13 := fr_tr f12 (fr_up (f_Mo_isAddress e13) (fun _ h9 => (by cases h9)) (fun _ h9 => (by cases h9)))
      by_cases c14 : v13 = 0
      · rw [if_pos c14] at h
        exact fr_tr f13 (f_Mo_isRight_62 h)
      · rw [if_neg c14] at h
        obtain ⟨v18, σ18, e18, h⟩ := am_bd_some h
        have f18 : FR [(0, 37)] [] σ σ18 := fr_tr f13 (f_Mo_address e18)
        by_cases c19 : v18 = 0
        · rw [if_pos c19] at h
          exact fr_tr f18 (f_Mo_isRight_62 h)
        · rw [if_neg c19] at h
          exact fr_tr f18 (f_Mo_isRight_58 h)
set_option maxHeartbeats 4000000 in
theorem f_Mo_isRight_18 {x1 : Int32} {σ σ' : am_S} {r : Int32} (h : g_Mo_isRight_18 x1 σ = some (r, σ')) : FR [(0, 37)] [] σ σ' := by
  unfold g_Mo_isRight_18 at h
  exact f_Mo_isRight_23 h
set_option maxHeartbeats 4000000 in
theorem f_Mo_isRight_0 {x1 : Int32} {σ σ' : am_S} {r : Int32} (h : g_Mo_isRight x1 σ = some (r, σ')) : FR [(0, 37)] [] σ σ' := by
  unfold g_Mo_isRight at h
  obtain ⟨v4, σ4, e4, h⟩ := am_bd_some h
  have f4 : FR [(0, 37)] [] σ σ4 := fr_up (f_Mo_has e4) (fun _ h9 => (by cases h9)) (fun _ h9 => (by cases h9))
  by_cases c5 : v4 = 0
  · rw [if_pos c5] at h
    exact fr_tr f4 (f_Mo_isRight_18 h)
  · rw [if_neg c5] at h
    obtain ⟨v8, σ8, e8, h⟩ := am_bd_some h
    have f8 : FR [(0, 37)] [] σ σ8 := fr_tr f4 (fr_up (f_Mo_nameAt e8) (fun _ h9 => (by cases h9)) (fun _ h9 => (by cases h9)))
    by_cases c10 : v8 = (-1)
    · rw [if_pos c10] at h
      exact fr_tr f8 (f_Mo_isRight_23 h)
    · rw [if_neg c10] at h
      exact fr_tr f8 (f_Mo_isRight_18 h)
theorem f_Mo_isRight {x1 : Int32} {σ σ' : am_S} {r : Int32} (h : g_Mo_isRight x1 σ = some (r, σ')) : FR [(0, 37)] [] σ σ' := f_Mo_isRight_0 h
set_option maxHeartbeats 4000000 in
theorem f_Mo_range_17 {σ σ' : am_S} {r : Int32} (h : g_Mo_range_17 σ = some (r, σ')) : FR [(0, 33)] [23, 24] σ σ' := by
  unfold g_Mo_range_17 at h
  exact fr_lf fr_rf h
set_option maxHeartbeats 4000000 in
theorem f_Mo_range_0 {x1 : Int64} {x3 : Int64} {σ σ' : am_S} {r : Int32} (h : g_Mo_range x1 x3 σ = some (r, σ')) : FR [(0, 33)] [23, 24] σ σ' := by
  unfold g_Mo_range at h
  by_cases c4 : (σ.1.1 0 33) = 300
  · rw [if_pos c4] at h
    exact f_Mo_range_17 h
  · rw [if_neg c4] at h
    by_cases c7 : (σ.1.1 0 8) = 0
    · rw [if_pos c7] at h
      obtain ⟨_, h⟩ := gd_some h
      obtain ⟨_, h⟩ := gd_some h
      exact fr_lf (fr_fi (fr_al (fr_al fr_rf (List.mem_of_getElem? (i := 0) rfl)) (List.mem_of_getElem? (i := 1) rfl)) (List.mem_of_getElem? (i := 0) rfl)) h
    · rw [if_neg c7] at h
      exact f_Mo_range_17 h
theorem f_Mo_range {x1 : Int64} {x3 : Int64} {σ σ' : am_S} {r : Int32} (h : g_Mo_range x1 x3 σ = some (r, σ')) : FR [(0, 33)] [23, 24] σ σ' := f_Mo_range_0 h
set_option maxHeartbeats 4000000 in
theorem f_Mo_rangeByIndex_20 {σ σ' : am_S} {r : Int32} (h : g_Mo_rangeByIndex_20 σ = some (r, σ')) : FR [(0, 33), (0, 37), (0, 6), (0, 8)] [23, 24] σ σ' := by
  unfold g_Mo_rangeByIndex_20 at h
  exact fr_lf fr_rf h
set_option maxHeartbeats 4000000 in
theorem f_Mo_rangeByIndex_83 {y0 : Int32} {σ σ' : am_S} {r : Int32} (h : g_Mo_rangeByIndex_83 y0 σ = some (r, σ')) : FR [(0, 33), (0, 37), (0, 6), (0, 8)] [23, 24] σ σ' := by
  unfold g_Mo_rangeByIndex_83 at h
  obtain ⟨_, h⟩ := gd_some h
  exact fr_lf fr_rf h
set_option maxHeartbeats 4000000 in
theorem f_Mo_rangeByIndex_82 {σ σ' : am_S} {r : Int32} (h : g_Mo_rangeByIndex_82 σ = some (r, σ')) : FR [(0, 33), (0, 37), (0, 6), (0, 8)] [23, 24] σ σ' := by
  unfold g_Mo_rangeByIndex_82 at h
  exact f_Mo_rangeByIndex_83 h
set_option maxHeartbeats 4000000 in
theorem f_Mo_rangeByIndex_0 {x1 : Int32} {x2 : Int32} {σ σ' : am_S} {r : Int32} (h : g_Mo_rangeByIndex x1 x2 σ = some (r, σ')) : FR [(0, 33), (0, 37), (0, 6), (0, 8)] [23, 24] σ σ' := by
  unfold g_Mo_rangeByIndex at h
  obtain ⟨v5, σ5, e5, h⟩ := am_bd_some h
  have f5 : FR [(0, 33), (0, 37), (0, 6), (0, 8)] [23, 24] σ σ5 := fr_up (f_Mo_leb e5) (by decide) (by decide)
  obtain ⟨v6, σ6, e6, h⟩ := am_bd_some h
  have f6 : FR [(0, 33), (0, 37), (0, 6), (0, 8)] [23, 24] σ σ6 := fr_tr f5 (fr_up (f_Mo_addressAt e6) (by decide) (by decide))
  by_cases c7 : v6 = 0
  · rw [if_pos c7] at h
    exact fr_tr f6 (f_Mo_rangeByIndex_20 h)
  · rw [if_neg c7] at h
    by_cases c10 : (σ6.1.1 0 8) = 0
    · rw [if_pos c10] at h
      obtain ⟨v16, σ16, e16, h⟩ := am_bd_some h
      have f16 : FR [(0, 33), (0, 37), (0, 6), (0, 8)] [23, 24] σ σ16 := fr_tr f6 (fr_up (f_Mo_leb e16) (by decide) (by decide))
      by_cases c20 : x2 = 3
      · rw [if_pos c20] at h
        obtain ⟨v26, σ26, e26, h⟩ := am_bd_some h
        have f26 : FR [(0, 33), (0, 37), (0, 6), (0, 8)] [23, 24] σ σ26 := fr_tr f16 (fr_up (f_Mo_range e26) (by decide) (fun _ h9 => h9))
        obtain ⟨_, h⟩ := gd_some h
        exact fr_lf f26 h
      · rw [if_neg c20] at h
        by_cases c23 : (σ16.1.1 0 8) = 0
        · rw [if_pos c23] at h
          obtain ⟨v27, σ27, e27, h⟩ := am_bd_some h
          have f27 : FR [(0, 33), (0, 37), (0, 6), (0, 8)] [23, 24] σ σ27 := fr_tr f16 (fr_up (f_Mo_addressAt e27) (by decide) (by decide))
          by_cases c28 : v27 = 0
          · rw [if_pos c28] at h
            exact fr_tr f27 (f_Mo_rangeByIndex_82 h)
          · rw [if_neg c28] at h
            obtain ⟨v33, σ33, e33, h⟩ := am_bd_some h
            have f33 : FR [(0, 33), (0, 37), (0, 6), (0, 8)] [23, 24] σ σ33 := fr_tr f27 (fr_up (f_Mo_range e33) (by decide) (fun _ h9 => h9))
            by_cases c34 : v33 = 0
            · rw [if_pos c34] at h
              exact fr_tr f33 (f_Mo_rangeByIndex_82 h)
            · rw [if_neg c34] at h
              exact fr_tr f33 (f_Mo_rangeByIndex_83 h)
        · rw [if_neg c23] at h
          exact fr_tr f16 (f_Mo_rangeByIndex_82 h)
    · rw [if_neg c10] at h
      exact fr_tr f6 (f_Mo_rangeByIndex_20 h)
theorem f_Mo_rangeByIndex {x1 : Int32} {x2 : Int32} {σ σ' : am_S} {r : Int32} (h : g_Mo_rangeByIndex x1 x2 σ = some (r, σ')) : FR [(0, 33), (0, 37), (0, 6), (0, 8)] [23, 24] σ σ' := f_Mo_rangeByIndex_0 h
set_option maxHeartbeats 4000000 in
theorem f_Mo_readList_77 {σ σ' : am_S} {r : Int32} (h : g_Mo_readList_77 σ = some (r, σ')) : FR [(0, 33), (0, 37), (0, 6), (0, 8)] [23, 24] σ σ' := by
  unfold g_Mo_readList_77 at h
  exact fr_lf fr_rf h
set_option maxHeartbeats 4000000 in
theorem f_Mo_readList_256 {x1 : Int32} {x3 : Int64} {x6 : Int32} {y0 : Int32} {σ σ' : am_S} {r : Int32} {go : Int32 → Int64 → Int32 → Int32 → am_S → Option (Int32 × am_S)} (hgo : ∀ {x1 : Int32} {x3 : Int64} {x5 : Int32} {x6 : Int32} {σ σ' : am_S} {r : Int32}, go x1 x3 x5 x6 σ = some (r, σ') → FR [(0, 33), (0, 37), (0, 6), (0, 8)] [23, 24] σ σ') (h : g_Mo_readList_256 go x1 x3 x6 y0 σ = some (r, σ')) : FR [(0, 33), (0, 37), (0, 6), (0, 8)] [23, 24] σ σ' := by
  unfold g_Mo_readList_256 at h
  exact hgo h
set_option maxHeartbeats 4000000 in
theorem f_Mo_readList_255 {x1 : Int32} {x3 : Int64} {x6 : Int32} {σ σ' : am_S} {r : Int32} {go : Int32 → Int64 → Int32 → Int32 → am_S → Option (Int32 × am_S)} (hgo : ∀ {x1 : Int32} {x3 : Int64} {x5 : Int32} {x6 : Int32} {σ σ' : am_S} {r : Int32}, go x1 x3 x5 x6 σ = some (r, σ') → FR [(0, 33), (0, 37), (0, 6), (0, 8)] [23, 24] σ σ') (h : g_Mo_readList_255 go x1 x3 x6 σ = some (r, σ')) : FR [(0, 33), (0, 37), (0, 6), (0, 8)] [23, 24] σ σ' := by
  unfold g_Mo_readList_255 at h
  exact f_Mo_readList_256 hgo h
set_option maxHeartbeats 4000000 in
theorem f_Mo_readList_239 {x1 : Int32} {x3 : Int64} {x5 : Int32} {x6 : Int32} {σ σ' : am_S} {r : Int32} {go : Int32 → Int64 → Int32 → Int32 → am_S → Option (Int32 × am_S)} (hgo : ∀ {x1 : Int32} {x3 : Int64} {x5 : Int32} {x6 : Int32} {σ σ' : am_S} {r : Int32}, go x1 x3 x5 x6 σ = some (r, σ') → FR [(0, 33), (0, 37), (0, 6), (0, 8)] [23, 24] σ σ') (h : g_Mo_readList_239 go x1 x3 x5 x6 σ = some (r, σ')) : FR [(0, 33), (0, 37), (0, 6), (0, 8)] [23, 24] σ σ' := by
  unfold g_Mo_readList_239 at h
  by_cases c2 : x5 = 0
  · rw [if_pos c2] at h
    exact f_Mo_readList_255 hgo h
  · rw [if_neg c2] at h
    by_cases c5 : (σ.1.1 0 8) = 0
    · rw [if_pos c5] at h
      exact f_Mo_readList_256 hgo h
    · rw [if_neg c5] at h
      exact f_Mo_readList_255 hgo h
set_option maxHeartbeats 4000000 in
theorem f_Mo_readList_110 {x1 : Int32} {x6 : Int32} {y0 : Int32} {σ σ' : am_S} {r : Int32} {go : Int32 → Int64 → Int32 → Int32 → am_S → Option (Int32 × am_S)} (hgo : ∀ {x1 : Int32} {x3 : Int64} {x5 : Int32} {x6 : Int32} {σ σ' : am_S} {r : Int32}, go x1 x3 x5 x6 σ = some (r, σ') → FR [(0, 33), (0, 37), (0, 6), (0, 8)] [23, 24] σ σ') (h : g_Mo_readList_110 go x1 x6 y0 σ = some (r, σ')) : FR [(0, 33), (0, 37), (0, 6), (0, 8)] [23, 24] σ σ' := by
  unfold g_Mo_readList_110 at h
  exact f_Mo_readList_239 hgo h
set_option maxHeartbeats 4000000 in
theorem f_Mo_readList_109 {x1 : Int32} {x6 : Int32} {σ σ' : am_S} {r : Int32} {go : Int32 → Int64 → Int32 → Int32 → am_S → Option (Int32 × am_S)} (hgo : ∀ {x1 : Int32} {x3 : Int64} {x5 : Int32} {x6 : Int32} {σ σ' : am_S} {r : Int32}, go x1 x3 x5 x6 σ = some (r, σ') → FR [(0, 33), (0, 37), (0, 6), (0, 8)] [23, 24] σ σ') (h : g_Mo_readList_109 go x1 x6 σ = some (r, σ')) : FR [(0, 33), (0, 37), (0, 6), (0, 8)] [23, 24] σ σ' := by
  unfold g_Mo_readList_109 at h
  exact f_Mo_readList_110 hgo h
set_option maxHeartbeats 4000000 in
theorem f_Mo_readList_132 {x1 : Int32} {x3 : Int64} {x6 : Int32} {σ σ' : am_S} {r : Int32} {go : Int32 → Int64 → Int32 → Int32 → am_S → Option (Int32 × am_S)} (hgo : ∀ {x1 : Int32} {x3 : Int64} {x5 : Int32} {x6 : Int32} {σ σ' : am_S} {r : Int32}, go x1 x3 x5 x6 σ = some (r, σ') → FR [(0, 33), (0, 37), (0, 6), (0, 8)] [23, 24] σ σ') (h : g_Mo_readList_132 go x1 x3 x6 σ = some (r, σ')) : FR [(0, 33), (0, 37), (0, 6), (0, 8)] [23, 24] σ σ' := by
  unfold g_Mo_readList_132 at h
  obtain ⟨v4, σ4, e4, h⟩ := am_bd_some h
  have f4 : FR [(0, 33), (0, 37), (0, 6), (0, 8)] [23, 24] σ σ4 := f_Mo_rangeByIndex e4
  exact fr_tr f4 (f_Mo_readList_239 hgo h)
set_option maxHeartbeats 4000000 in
theorem f_Mo_readList_234 {x1 : Int32} {x3 : Int64} {x6 : Int32} {y0 : Int64} {y1 : Int64} {σ σ' : am_S} {r : Int32} {go : Int32 → Int64 → Int32 → Int32 → am_S → Option (Int32 × am_S)} (hgo : ∀ {x1 : Int32} {x3 : Int64} {x5 : Int32} {x6 : Int32} {σ σ' : am_S} {r : Int32}, go x1 x3 x5 x6 σ = some (r, σ') → FR [(0, 33), (0, 37), (0, 6), (0, 8)] [23, 24] σ σ') (h : g_Mo_readList_234 go x1 x3 x6 y0 y1 σ = some (r, σ')) : FR [(0, 33), (0, 37), (0, 6), (0, 8)] [23, 24] σ σ' := by
  unfold g_Mo_readList_234 at h
  obtain ⟨v1, σ1, e1, h⟩ := am_bd_some h
  have f1 : FR [(0, 33), (0, 37), (0, 6), (0, 8)] [23, 24] σ σ1 := fr_up (f_Mo_range e1) (by decide) (fun _ h9 => h9)
  exact fr_tr f1 (f_Mo_readList_239 hgo h)
set_option maxHeartbeats 4000000 in
theorem f_Mo_readList_261 {x5 : Int32} {σ σ' : am_S} {r : Int32} (h : g_Mo_readList_261 x5 σ = some (r, σ')) : FR [(0, 33), (0, 37), (0, 6), (0, 8)] [23, 24] σ σ' := by
  unfold g_Mo_readList_261 at h
  obtain ⟨_, h⟩ := gd_some h
  exact fr_lf fr_rf h
set_option maxHeartbeats 4000000 in
theorem f_Mo_readList_45 : ∀ (n : Nat) {x1 : Int32} {x3 : Int64} {x5 : Int32} {x6 : Int32} {σ σ' : am_S} {r : Int32} (h : g_Mo_readList_45 n x1 x3 x5 x6 σ = some (r, σ')), FR [(0, 33), (0, 37), (0, 6), (0, 8)] [23, 24] σ σ' := by
  intro n
  induction n with
  | zero =>
    intro x1 x3 x5 x6 σ σ' r h
    cases h
  | succ n ih =>
  intro x1 x3 x5 x6 σ σ' r h
  unfold g_Mo_readList_45 at h
  by_cases c2 : x5 = 0
  · rw [if_pos c2] at h
    exact f_Mo_readList_261 h
  · rw [if_neg c2] at h
    by_cases c4 : x6 = 0
    · rw [if_pos c4] at h
      exact f_Mo_readList_261 h
    · rw [if_neg c4] at h
      obtain ⟨v7, σ7, e7, h⟩ := am_bd_some h
      have f7 : FR [(0, 33), (0, 37), (0, 6), (0, 8)] [23, 24] σ σ7 := fr_up (f_Mo_u e7) (by decide) (by decide)
      by_cases c12 : (σ7.1.1 0 8) = 0
      · rw [if_pos c12] at h
        by_cases c15 : 7 < v7.toInt32
        · rw [if_pos c15] at h
          exact fr_tr f7 (f_Mo_readList_77 h)
        · rw [if_neg c15] at h
          by_cases c18 : v7.toInt32 = 1
          · rw [if_pos c18] at h
            obtain ⟨v23, σ23, e23, h⟩ := am_bd_some h
            have f23 : FR [(0, 33), (0, 37), (0, 6), (0, 8)] [23, 24] σ σ23 := fr_tr f7 (fr_up (f_Mo_leb e23) (by decide) (by decide))
            obtain ⟨v24, σ24, e24, h⟩ := am_bd_some h
            have f24 : FR [(0, 33), (0, 37), (0, 6), (0, 8)] [23, 24] σ σ24 := fr_tr f23 (fr_up (f_Mo_addressAt e24) (by decide) (by decide))
            by_cases c25 : v24 = 0
            · rw [if_pos c25] at h
              exact fr_tr f24 (f_Mo_readList_109 (fun h => ih h) h)
            · rw [if_neg c25] at h
              by_cases c28 : (σ24.1.1 0 8) = 0
              · rw [if_pos c28] at h
                exact fr_tr f24 (f_Mo_readList_110 (fun h => ih h) h)
              · rw [if_neg c28] at h
                exact fr_tr f24 (f_Mo_readList_109 (fun h => ih h) h)
          · rw [if_neg c18] at h
            by_cases c21 : v7.toInt32 = 2
            · rw [if_pos c21] at h
              exact fr_tr f7 (f_Mo_readList_132 (fun h => ih h) h)
            · rw [if_neg c21] at h
              by_cases c24 : v7.toInt32 = 3
              · rw [if_pos c24] at h
                exact fr_tr f7 (f_Mo_readList_132 (fun h => ih h) h)
              · rw [if_neg c24] at h
                by_cases c27 : v7.toInt32 = 4
                · rw [if_pos c27] at h
                  obtain ⟨v31, σ31, e31, h⟩ := am_bd_some h
                  have f31 : FR [(0, 33), (0, 37), (0, 6), (0, 8)] [23, 24] σ σ31 := fr_tr f7 (fr_up (f_Mo_leb e31) (by decide) (by decide))
                  obtain ⟨v39, σ39, e39, h⟩ := am_bd_some h
                  have f39 : FR [(0, 33), (0, 37), (0, 6), (0, 8)] [23, 24] σ σ39 := fr_tr f31 (fr_up (f_Mo_leb e39) (by decide) (by decide))
                  obtain ⟨v41, σ41, e41, h⟩ := am_bd_some h
                  have f41 : FR [(0, 33), (0, 37), (0, 6), (0, 8)] [23, 24] σ σ41 := fr_tr f39 (fr_up (f_Mo_range e41) (by decide) (fun _ h9 => h9))
                  exact fr_tr f41 (f_Mo_readList_239 (fun h => ih h) h)
                · rw [if_neg c27] at h
                  by_cases c30 : v7.toInt32 = 5
                  · rw [if_pos c30] at h
                    obtain ⟨v33, σ33, e33, h⟩ := am_bd_some h
                    have f33 : FR [(0, 33), (0, 37), (0, 6), (0, 8)] [23, 24] σ σ33 := fr_tr f7 (fr_up (f_Mo_u e33) (by decide) (by decide))
                    exact fr_tr f33 (f_Mo_readList_239 (fun h => ih h) h)
                  · rw [if_neg c30] at h
                    by_cases c33 : 5 < v7.toInt32
                    · rw [if_pos c33] at h
                      obtain ⟨v36, σ36, e36, h⟩ := am_bd_some h
                      have f36 : FR [(0, 33), (0, 37), (0, 6), (0, 8)] [23, 24] σ σ36 := fr_tr f7 (fr_up (f_Mo_u e36) (by decide) (by decide))
                      by_cases c42 : v7.toInt32 = 6
                      · rw [if_pos c42] at h
                        obtain ⟨v45, σ45, e45, h⟩ := am_bd_some h
                        have f45 : FR [(0, 33), (0, 37), (0, 6), (0, 8)] [23, 24] σ σ45 := fr_tr f36 (fr_up (f_Mo_u e45) (by decide) (by decide))
                        exact fr_tr f45 (f_Mo_readList_234 (fun h => ih h) h)
                      · rw [if_neg c42] at h
                        obtain ⟨v46, σ46, e46, h⟩ := am_bd_some h
                        have f46 : FR [(0, 33), (0, 37), (0, 6), (0, 8)] [23, 24] σ σ46 := fr_tr f36 (fr_up (f_Mo_leb e46) (by decide) (by decide))
                        exact fr_tr f46 (f_Mo_readList_234 (fun h => ih h) h)
                    · rw [if_neg c33] at h
                      exact fr_tr f7 (f_Mo_readList_239 (fun h => ih h) h)
      · rw [if_neg c12] at h
        exact fr_tr f7 (f_Mo_readList_77 h)
set_option maxHeartbeats 4000000 in
theorem f_Mo_readList_38 {x1 : Int32} {y0 : Int64} {σ σ' : am_S} {r : Int32} (h : g_Mo_readList_38 x1 y0 σ = some (r, σ')) : FR [(0, 33), (0, 37), (0, 6), (0, 8)] [23, 24] σ σ' := by
  unfold g_Mo_readList_38 at h
  exact f_Mo_readList_45 4000 h
set_option maxHeartbeats 4000000 in
theorem f_Mo_readList_37 {x1 : Int32} {σ σ' : am_S} {r : Int32} (h : g_Mo_readList_37 x1 σ = some (r, σ')) : FR [(0, 33), (0, 37), (0, 6), (0, 8)] [23, 24] σ σ' := by
  unfold g_Mo_readList_37 at h
  exact f_Mo_readList_38 h
set_option maxHeartbeats 4000000 in
theorem f_Mo_readList_0 {x1 : Int32} {σ σ' : am_S} {r : Int32} (h : g_Mo_readList x1 σ = some (r, σ')) : FR [(0, 33), (0, 37), (0, 6), (0, 8)] [23, 24] σ σ' := by
  unfold g_Mo_readList at h
  obtain ⟨_, h⟩ := gd_some h
  obtain ⟨_, h⟩ := gd_some h
  obtain ⟨v12, σ12, e12, h⟩ := am_bd_some h
  have f12 : FR [(0, 33), (0, 37), (0, 6), (0, 8)] [23, 24] σ σ12 := fr_up (f_Mo_has e12) (fun _ h9 => (by cases h9)) (fun _ h9 => (by cases h9))
  by_cases c13 : v12 = 0
  · rw [if_pos c13] at h
    exact fr_tr f12 (f_Mo_readList_37 h)
  · rw [if_neg c13] at h
    obtain ⟨v17, σ17, e17, h⟩ := am_bd_some h
    have f17 : FR [(0, 33), (0, 37), (0, 6), (0, 8)] [23, 24] σ σ17 := fr_tr f12 (fr_up (f_Mo_address e17) (by decide) (by decide))
    by_cases c18 : v17 = 0
    · rw [if_pos c18] at h
      exact fr_tr f17 (f_Mo_readList_37 h)
    · rw [if_neg c18] at h
      exact fr_tr f17 (f_Mo_readList_38 h)
theorem f_Mo_readList {x1 : Int32} {σ σ' : am_S} {r : Int32} (h : g_Mo_readList x1 σ = some (r, σ')) : FR [(0, 33), (0, 37), (0, 6), (0, 8)] [23, 24] σ σ' := f_Mo_readList_0 h
set_option maxHeartbeats 4000000 in
theorem f_Mo_readRanges_27 {σ σ' : am_S} {r : Int32} (h : g_Mo_readRanges_27 σ = some (r, σ')) : FR [(0, 33), (0, 37), (0, 6), (0, 7), (0, 8)] [23, 24] σ σ' := by
  unfold g_Mo_readRanges_27 at h
  exact fr_lf fr_rf h
set_option maxHeartbeats 4000000 in
theorem f_Mo_readRanges_123 {y0 : Int32} {σ σ' : am_S} {r : Int32} (h : g_Mo_readRanges_123 y0 σ = some (r, σ')) : FR [(0, 33), (0, 37), (0, 6), (0, 7), (0, 8)] [23, 24] σ σ' := by
  unfold g_Mo_readRanges_123 at h
  obtain ⟨_, h⟩ := gd_some h
  exact fr_lf fr_rf h
set_option maxHeartbeats 4000000 in
theorem f_Mo_readRanges_122 {σ σ' : am_S} {r : Int32} (h : g_Mo_readRanges_122 σ = some (r, σ')) : FR [(0, 33), (0, 37), (0, 6), (0, 7), (0, 8)] [23, 24] σ σ' := by
  unfold g_Mo_readRanges_122 at h
  exact f_Mo_readRanges_123 h
set_option maxHeartbeats 4000000 in
theorem f_Mo_readRanges_112 {y0 : Int64} {y1 : Int64} {σ σ' : am_S} {r : Int32} (h : g_Mo_readRanges_112 y0 y1 σ = some (r, σ')) : FR [(0, 33), (0, 37), (0, 6), (0, 7), (0, 8)] [23, 24] σ σ' := by
  unfold g_Mo_readRanges_112 at h
  obtain ⟨v1, σ1, e1, h⟩ := am_bd_some h
  have f1 : FR [(0, 33), (0, 37), (0, 6), (0, 7), (0, 8)] [23, 24] σ σ1 := fr_up (f_Mo_range e1) (by decide) (fun _ h9 => h9)
  by_cases c2 : v1 = 0
  · rw [if_pos c2] at h
    exact fr_tr f1 (f_Mo_readRanges_122 h)
  · rw [if_neg c2] at h
    exact fr_tr f1 (f_Mo_readRanges_123 h)
set_option maxHeartbeats 4000000 in
theorem f_Mo_readRanges_67 {x1 : Int32} {x2 : Int32} {x3 : Int64} {y0 : Int32} {σ σ' : am_S} {r : Int32} (h : g_Mo_readRanges_67 x1 x2 x3 y0 σ = some (r, σ')) : FR [(0, 33), (0, 37), (0, 6), (0, 7), (0, 8)] [23, 24] σ σ' := by
  unfold g_Mo_readRanges_67 at h
  by_cases c6 : x2 = 0
  · rw [if_pos c6] at h
    exact fr_tr (fr_fi fr_rf (List.mem_of_getElem? (i := 4) rfl)) (f_Mo_readRanges_122 h)
  · rw [if_neg c6] at h
    by_cases c8 : y0 = 0
    · rw [if_pos c8] at h
      exact fr_tr (fr_fi fr_rf (List.mem_of_getElem? (i := 4) rfl)) (f_Mo_readRanges_122 h)
    · rw [if_neg c8] at h
      obtain ⟨v14, σ14, e14, h⟩ := am_bd_some h
      have f14 : FR [(0, 33), (0, 37), (0, 6), (0, 7), (0, 8)] [23, 24] σ σ14 := fr_tr (fr_fi fr_rf (List.mem_of_getElem? (i := 4) rfl)) (fr_up (f_Mo_formAt e14) (fun _ h9 => (by cases h9)) (fun _ h9 => (by cases h9)))
      obtain ⟨v15, σ15, e15, h⟩ := am_bd_some h
      have f15 : FR [(0, 33), (0, 37), (0, 6), (0, 7), (0, 8)] [23, 24] σ σ15 := fr_tr f14 (fr_up (f_Mo_isConstant e15) (fun _ h9 => (by cases h9)) (fun _ h9 => (by cases h9)))
      by_cases c16 : v15 = 0
      · rw [if_pos c16] at h
        exact fr_tr f15 (f_Mo_readRanges_112 h)
      · rw [if_neg c16] at h
        obtain ⟨v21, σ21, e21, h⟩ := am_bd_some h
        have f21 : FR [(0, 33), (0, 37), (0, 6), (0, 7), (0, 8)] [23, 24] σ σ21 := fr_tr f15 (fr_up (f_Mo_valueAt e21) (fun _ h9 => (by cases h9)) (fun _ h9 => (by cases h9)))
        exact fr_tr f21 (f_Mo_readRanges_112 h)
set_option maxHeartbeats 4000000 in
theorem f_Mo_readRanges_62 {x1 : Int32} {x2 : Int32} {x3 : Int64} {σ σ' : am_S} {r : Int32} (h : g_Mo_readRanges_62 x1 x2 x3 σ = some (r, σ')) : FR [(0, 33), (0, 37), (0, 6), (0, 7), (0, 8)] [23, 24] σ σ' := by
  unfold g_Mo_readRanges_62 at h
  exact f_Mo_readRanges_67 h
set_option maxHeartbeats 4000000 in
theorem f_Mo_readRanges_182 {x1 : Int32} {x2 : Int64} {σ σ' : am_S} {r : Int32} (h : g_Mo_readRanges_182 x1 x2 σ = some (r, σ')) : FR [(0, 33), (0, 37), (0, 6), (0, 7), (0, 8)] [23, 24] σ σ' := by
  unfold g_Mo_readRanges_182 at h
  obtain ⟨v4, σ4, e4, h⟩ := am_bd_some h
  have f4 : FR [(0, 33), (0, 37), (0, 6), (0, 7), (0, 8)] [23, 24] σ σ4 := fr_up (f_Mo_enter e4) (by decide) (by decide)
  obtain ⟨v7, σ7, e7, h⟩ := am_bd_some h
  have f7 : FR [(0, 33), (0, 37), (0, 6), (0, 7), (0, 8)] [23, 24] σ σ7 := fr_tr f4 (fr_up (f_Mo_readList e7) (by decide) (fun _ h9 => h9))
  obtain ⟨_, h⟩ := gd_some h
  exact fr_lf f7 h
set_option maxHeartbeats 4000000 in
theorem f_Mo_readRanges_0 {x1 : Int32} {σ σ' : am_S} {r : Int32} (h : g_Mo_readRanges x1 σ = some (r, σ')) : FR [(0, 33), (0, 37), (0, 6), (0, 7), (0, 8)] [23, 24] σ σ' := by
  unfold g_Mo_readRanges at h
  obtain ⟨v4, σ4, e4, h⟩ := am_bd_some h
  have f4 : FR [(0, 33), (0, 37), (0, 6), (0, 7), (0, 8)] [23, 24] σ σ4 := fr_up (f_Mo_has e4) (fun _ h9 => (by cases h9)) (fun _ h9 => (by cases h9))
  by_cases c5 : v4 = 0
  · rw [if_pos c5] at h
    obtain ⟨v9, σ9, e9, h⟩ := am_bd_some h
    have f9 : FR [(0, 33), (0, 37), (0, 6), (0, 7), (0, 8)] [23, 24] σ σ9 := fr_tr f4 (fr_up (f_Mo_has e9) (fun _ h9 => (by cases h9)) (fun _ h9 => (by cases h9)))
    by_cases c10 : v9 = 0
    · rw [if_pos c10] at h
      exact fr_tr f9 (f_Mo_readRanges_27 h)
    · rw [if_neg c10] at h
      obtain ⟨v14, σ14, e14, h⟩ := am_bd_some h
      have f14 : FR [(0, 33), (0, 37), (0, 6), (0, 7), (0, 8)] [23, 24] σ σ14 := fr_tr f9 (fr_up (f_Mo_has e14) (fun _ h9 => (by cases h9)) (fun _ h9 => (by cases h9)))
      by_cases c15 : v14 = 0
      · rw [if_pos c15] at h
        exact fr_tr f14 (f_Mo_readRanges_27 h)
      · rw [if_neg c15] at h
        obtain ⟨v19, σ19, e19, h⟩ := am_bd_some h
        have f19 : FR [(0, 33), (0, 37), (0, 6), (0, 7), (0, 8)] [23, 24] σ σ19 := fr_tr f14 (fr_up (f_Mo_address e19) (by decide) (by decide))
        obtain ⟨v27, σ27, e27, h⟩ := am_bd_some h
        have f27 : FR [(0, 33), (0, 37), (0, 6), (0, 7), (0, 8)] [23, 24] σ σ27 := fr_tr f19 (fr_up (f_Mo_formAt e27) (fun _ h9 => (by cases h9)) (fun _ h9 => (by cases h9)))
        obtain ⟨v28, σ28, e28, h⟩ := am_bd_some h
        have f28 : FR [(0, 33), (0, 37), (0, 6), (0, 7), (0, 8)] [23, 24] σ σ28 := fr_tr f27 (fr_up (f_Mo_isConstant e28) (fun _ h9 => (by cases h9)) (fun _ h9 => (by cases h9)))
        by_cases c29 : v28 = 0
        · rw [if_pos c29] at h
          obtain ⟨v33, σ33, e33, h⟩ := am_bd_some h
          have f33 : FR [(0, 33), (0, 37), (0, 6), (0, 7), (0, 8)] [23, 24] σ σ33 := fr_tr f28 (fr_up (f_Mo_address e33) (by decide) (by decide))
          by_cases c34 : v33 = 0
          · rw [if_pos c34] at h
            exact fr_tr f33 (f_Mo_readRanges_67 h)
          · rw [if_neg c34] at h
            exact fr_tr f33 (f_Mo_readRanges_62 h)
        · rw [if_neg c29] at h
          exact fr_tr f28 (f_Mo_readRanges_62 h)
  · rw [if_neg c5] at h
    obtain ⟨v9, σ9, e9, h⟩ := am_bd_some h
    have f9 : FR [(0, 33), (0, 37), (0, 6), (0, 7), (0, 8)] [23, 24] σ σ9 := fr_tr f4 (fr_up (f_Mo_valueAt e9) (fun _ h9 => (by cases h9)) (fun _ h9 => (by cases h9)))
    obtain ⟨v14, σ14, e14, h⟩ := am_bd_some h
    have f14 : FR [(0, 33), (0, 37), (0, 6), (0, 7), (0, 8)] [23, 24] σ σ14 := fr_tr f9 (fr_up (f_Mo_formAt e14) (fun _ h9 => (by cases h9)) (fun _ h9 => (by cases h9)))
    by_cases c16 : v14 = 35
    · rw [if_pos c16] at h
      obtain ⟨v20, σ20, e20, h⟩ := am_bd_some h
      have f20 : FR [(0, 33), (0, 37), (0, 6), (0, 7), (0, 8)] [23, 24] σ σ20 := fr_tr f14 (fr_up (f_Mo_baseOf e20) (fun _ h9 => (by cases h9)) (fun _ h9 => (by cases h9)))
      obtain ⟨v27, σ27, e27, h⟩ := am_bd_some h
      have f27 : FR [(0, 33), (0, 37), (0, 6), (0, 7), (0, 8)] [23, 24] σ σ27 := fr_tr f20 (fr_up (f_Mo_indexed e27) (fun _ h9 => (by cases h9)) (fun _ h9 => (by cases h9)))
      by_cases c31 : v27 = (-1)
      · rw [if_pos c31] at h
        exact fr_lf f27 h
      · rw [if_neg c31] at h
        obtain ⟨v36, σ36, e36, h⟩ := am_bd_some h
        have f36 : FR [(0, 33), (0, 37), (0, 6), (0, 7), (0, 8)] [23, 24] σ σ36 := fr_tr f27 (fr_up (f_Mo_peek e36) (fun _ h9 => (by cases h9)) (fun _ h9 => (by cases h9)))
        exact fr_tr f36 (f_Mo_readRanges_182 h)
    · rw [if_neg c16] at h
      exact fr_tr f14 (f_Mo_readRanges_182 h)
theorem f_Mo_readRanges {x1 : Int32} {σ σ' : am_S} {r : Int32} (h : g_Mo_readRanges x1 σ = some (r, σ')) : FR [(0, 33), (0, 37), (0, 6), (0, 7), (0, 8)] [23, 24] σ σ' := f_Mo_readRanges_0 h
set_option maxHeartbeats 4000000 in
theorem f_Mo_readValues_101 {x2 : Int32} {y0 : Int32} {σ σ' : am_S} {r : Int32} {go : Int32 → Int32 → am_S → Option (Int32 × am_S)} (hgo : ∀ {x1 : Int32} {x2 : Int32} {σ σ' : am_S} {r : Int32}, go x1 x2 σ = some (r, σ') → FR [(0, 33), (0, 37), (0, 6), (0, 7), (0, 8)] [22, 23, 24] σ σ') (h : g_Mo_readValues_101 go x2 y0 σ = some (r, σ')) : FR [(0, 33), (0, 37), (0, 6), (0, 7), (0, 8)] [22, 23, 24] σ σ' := by
  unfold g_Mo_readValues_101 at h
  exact hgo h
set_option maxHeartbeats 4000000 in
theorem f_Mo_readValues_96 {x2 : Int32} {σ σ' : am_S} {r : Int32} {go : Int32 → Int32 → am_S → Option (Int32 × am_S)} (hgo : ∀ {x1 : Int32} {x2 : Int32} {σ σ' : am_S} {r : Int32}, go x1 x2 σ = some (r, σ') → FR [(0, 33), (0, 37), (0, 6), (0, 7), (0, 8)] [22, 23, 24] σ σ') (h : g_Mo_readValues_96 go x2 σ = some (r, σ')) : FR [(0, 33), (0, 37), (0, 6), (0, 7), (0, 8)] [22, 23, 24] σ σ' := by
  unfold g_Mo_readValues_96 at h
  exact f_Mo_readValues_101 hgo h
set_option maxHeartbeats 4000000 in
theorem f_Mo_readValues_100 {x2 : Int32} {σ σ' : am_S} {r : Int32} {go : Int32 → Int32 → am_S → Option (Int32 × am_S)} (hgo : ∀ {x1 : Int32} {x2 : Int32} {σ σ' : am_S} {r : Int32}, go x1 x2 σ = some (r, σ') → FR [(0, 33), (0, 37), (0, 6), (0, 7), (0, 8)] [22, 23, 24] σ σ') (h : g_Mo_readValues_100 go x2 σ = some (r, σ')) : FR [(0, 33), (0, 37), (0, 6), (0, 7), (0, 8)] [22, 23, 24] σ σ' := by
  unfold g_Mo_readValues_100 at h
  exact f_Mo_readValues_101 hgo h
set_option maxHeartbeats 4000000 in
theorem f_Mo_readValues_75 {x2 : Int32} {y0 : Int32} {σ σ' : am_S} {r : Int32} {go : Int32 → Int32 → am_S → Option (Int32 × am_S)} (hgo : ∀ {x1 : Int32} {x2 : Int32} {σ σ' : am_S} {r : Int32}, go x1 x2 σ = some (r, σ') → FR [(0, 33), (0, 37), (0, 6), (0, 7), (0, 8)] [22, 23, 24] σ σ') (h : g_Mo_readValues_75 go x2 y0 σ = some (r, σ')) : FR [(0, 33), (0, 37), (0, 6), (0, 7), (0, 8)] [22, 23, 24] σ σ' := by
  unfold g_Mo_readValues_75 at h
  by_cases c3 : y0 = 0
  · rw [if_pos c3] at h
    exact f_Mo_readValues_96 hgo h
  · rw [if_neg c3] at h
    obtain ⟨v6, σ6, e6, h⟩ := am_bd_some h
    have f6 : FR [(0, 33), (0, 37), (0, 6), (0, 7), (0, 8)] [22, 23, 24] σ σ6 := fr_up (f_Mo_isRight e6) (by decide) (by decide)
    by_cases c7 : v6 = 0
    · rw [if_pos c7] at h
      exact fr_tr f6 (f_Mo_readValues_100 hgo h)
    · rw [if_neg c7] at h
      obtain ⟨v10, σ10, e10, h⟩ := am_bd_some h
      have f10 : FR [(0, 33), (0, 37), (0, 6), (0, 7), (0, 8)] [22, 23, 24] σ σ10 := fr_tr f6 (fr_up (f_Mo_readRanges e10) (fun _ h9 => h9) (by decide))
      by_cases c11 : v10 = 0
      · rw [if_pos c11] at h
        exact fr_tr f10 (f_Mo_readValues_100 hgo h)
      · rw [if_neg c11] at h
        exact fr_tr f10 (f_Mo_readValues_96 hgo h)
set_option maxHeartbeats 4000000 in
theorem f_Mo_readValues_70 {x2 : Int32} {σ σ' : am_S} {r : Int32} {go : Int32 → Int32 → am_S → Option (Int32 × am_S)} (hgo : ∀ {x1 : Int32} {x2 : Int32} {σ σ' : am_S} {r : Int32}, go x1 x2 σ = some (r, σ') → FR [(0, 33), (0, 37), (0, 6), (0, 7), (0, 8)] [22, 23, 24] σ σ') (h : g_Mo_readValues_70 go x2 σ = some (r, σ')) : FR [(0, 33), (0, 37), (0, 6), (0, 7), (0, 8)] [22, 23, 24] σ σ' := by
  unfold g_Mo_readValues_70 at h
  exact f_Mo_readValues_75 hgo h
set_option maxHeartbeats 4000000 in
theorem f_Mo_readValues_108 {x1 : Int32} {σ σ' : am_S} {r : Int32} (h : g_Mo_readValues_108 x1 σ = some (r, σ')) : FR [(0, 33), (0, 37), (0, 6), (0, 7), (0, 8)] [22, 23, 24] σ σ' := by
  unfold g_Mo_readValues_108 at h
  obtain ⟨_, h⟩ := gd_some h
  obtain ⟨_, h⟩ := gd_some h
  exact fr_lf (fr_ai fr_rf (List.mem_of_getElem? (i := 0) rfl)) h
set_option maxHeartbeats 4000000 in
theorem f_Mo_readValues_4 : ∀ (n : Nat) {x1 : Int32} {x2 : Int32} {σ σ' : am_S} {r : Int32} (h : g_Mo_readValues_4 n x1 x2 σ = some (r, σ')), FR [(0, 33), (0, 37), (0, 6), (0, 7), (0, 8)] [22, 23, 24] σ σ' := by
  intro n
  induction n with
  | zero =>
    intro x1 x2 σ σ' r h
    cases h
  | succ n ih =>
  intro x1 x2 σ σ' r h
  unfold g_Mo_readValues_4 at h
  by_cases c4 : x2 < (σ.1.1 0 22)
  · rw [if_pos c4] at h
    by_cases c6 : x1 = 0
    · rw [if_pos c6] at h
      exact f_Mo_readValues_108 h
    · rw [if_neg c6] at h
      obtain ⟨_, h⟩ := gd_some h
      obtain ⟨_, h⟩ := gd_some h
      by_cases c18 : ((am_ai σ 22 x2.toNatClampNeg (σ.1.1 0 33)).2.1 17 x2.toNatClampNeg) = 17
      · rw [if_pos c18] at h
        exact fr_tr (fr_ai fr_rf (List.mem_of_getElem? (i := 0) rfl)) (f_Mo_readValues_70 (fun h => ih h) h)
      · rw [if_neg c18] at h
        obtain ⟨_, h⟩ := gd_some h
        by_cases c24 : ((am_ai σ 22 x2.toNatClampNeg (σ.1.1 0 33)).2.1 17 x2.toNatClampNeg) = 46
        · rw [if_pos c24] at h
          exact fr_tr (fr_ai fr_rf (List.mem_of_getElem? (i := 0) rfl)) (f_Mo_readValues_70 (fun h => ih h) h)
        · rw [if_neg c24] at h
          obtain ⟨_, h⟩ := gd_some h
          by_cases c30 : ((am_ai σ 22 x2.toNatClampNeg (σ.1.1 0 33)).2.1 17 x2.toNatClampNeg) = 29
          · rw [if_pos c30] at h
            exact fr_tr (fr_ai fr_rf (List.mem_of_getElem? (i := 0) rfl)) (f_Mo_readValues_70 (fun h => ih h) h)
          · rw [if_neg c30] at h
            obtain ⟨_, h⟩ := gd_some h
            by_cases c36 : ((am_ai σ 22 x2.toNatClampNeg (σ.1.1 0 33)).2.1 17 x2.toNatClampNeg) = 11
            · rw [if_pos c36] at h
              exact fr_tr (fr_ai fr_rf (List.mem_of_getElem? (i := 0) rfl)) (f_Mo_readValues_70 (fun h => ih h) h)
            · rw [if_neg c36] at h
              exact fr_tr (fr_ai fr_rf (List.mem_of_getElem? (i := 0) rfl)) (f_Mo_readValues_75 (fun h => ih h) h)
  · rw [if_neg c4] at h
    exact f_Mo_readValues_108 h
set_option maxHeartbeats 4000000 in
theorem f_Mo_readValues_0 {σ σ' : am_S} {r : Int32} (h : g_Mo_readValues σ = some (r, σ')) : FR [(0, 33), (0, 37), (0, 6), (0, 7), (0, 8)] [22, 23, 24] σ σ' := by
  unfold g_Mo_readValues at h
  exact f_Mo_readValues_4 4000 h
theorem f_Mo_readValues {σ σ' : am_S} {r : Int32} (h : g_Mo_readValues σ = some (r, σ')) : FR [(0, 33), (0, 37), (0, 6), (0, 7), (0, 8)] [22, 23, 24] σ σ' := f_Mo_readValues_0 h
set_option maxHeartbeats 4000000 in
theorem f_Mo_begin_0 {σ σ' : am_S} {r : Unit} (h : g_Mo_begin σ = some (r, σ')) : FR [(0, 47), (0, 48), (0, 49)] [] σ σ' := by
  unfold g_Mo_begin at h
  exact fr_lf (fr_fi (fr_fl (fr_fl fr_rf (List.mem_of_getElem? (i := 0) rfl)) (List.mem_of_getElem? (i := 1) rfl)) (List.mem_of_getElem? (i := 2) rfl)) h
theorem f_Mo_begin {σ σ' : am_S} {r : Unit} (h : g_Mo_begin σ = some (r, σ')) : FR [(0, 47), (0, 48), (0, 49)] [] σ σ' := f_Mo_begin_0 h
set_option maxHeartbeats 4000000 in
theorem f_Mo_row_0 {x1 : Int32} {σ σ' : am_S} {r : Int32} (h : g_Mo_row x1 σ = some (r, σ')) : FR [(0, 38)] [27, 30, 31, 32] σ σ' := by
  unfold g_Mo_row at h
  by_cases c4 : (σ.1.1 0 38) = 400
  · rw [if_pos c4] at h
    exact fr_lf fr_rf h
  · rw [if_neg c4] at h
    obtain ⟨_, h⟩ := gd_some h
    obtain ⟨_, h⟩ := gd_some h
    obtain ⟨_, h⟩ := gd_some h
    obtain ⟨_, h⟩ := gd_some h
    exact fr_lf (fr_fi (fr_ai (fr_ai (fr_al (fr_al fr_rf (List.mem_of_getElem? (i := 1) rfl)) (List.mem_of_getElem? (i := 2) rfl)) (List.mem_of_getElem? (i := 0) rfl)) (List.mem_of_getElem? (i := 3) rfl)) (List.mem_of_getElem? (i := 0) rfl)) h
theorem f_Mo_row {x1 : Int32} {σ σ' : am_S} {r : Int32} (h : g_Mo_row x1 σ = some (r, σ')) : FR [(0, 38)] [27, 30, 31, 32] σ σ' := f_Mo_row_0 h
set_option maxHeartbeats 4000000 in
theorem f_Mo_readWhats_105 {σ σ' : am_S} {r : Int32} (h : g_Mo_readWhats_105 σ = some (r, σ')) : FR [(0, 6), (0, 8)] [29] σ σ' := by
  unfold g_Mo_readWhats_105 at h
  exact fr_lf fr_rf h
set_option maxHeartbeats 4000000 in
theorem f_Mo_readWhats_134 {x1 : Int32} {x3 : Int32} {y0 : Int32} {σ σ' : am_S} {r : Int32} {go : Int32 → Int32 → Int32 → am_S → Option (Int32 × am_S)} (hgo : ∀ {x1 : Int32} {x2 : Int32} {x3 : Int32} {σ σ' : am_S} {r : Int32}, go x1 x2 x3 σ = some (r, σ') → FR [(0, 6), (0, 8)] [29] σ σ') (h : g_Mo_readWhats_134 go x1 x3 y0 σ = some (r, σ')) : FR [(0, 6), (0, 8)] [29] σ σ' := by
  unfold g_Mo_readWhats_134 at h
  exact hgo h
set_option maxHeartbeats 4000000 in
theorem f_Mo_readWhats_133 {x1 : Int32} {x2 : Int32} {x3 : Int32} {σ σ' : am_S} {r : Int32} {go : Int32 → Int32 → Int32 → am_S → Option (Int32 × am_S)} (hgo : ∀ {x1 : Int32} {x2 : Int32} {x3 : Int32} {σ σ' : am_S} {r : Int32}, go x1 x2 x3 σ = some (r, σ') → FR [(0, 6), (0, 8)] [29] σ σ') (h : g_Mo_readWhats_133 go x1 x2 x3 σ = some (r, σ')) : FR [(0, 6), (0, 8)] [29] σ σ' := by
  unfold g_Mo_readWhats_133 at h
  exact f_Mo_readWhats_134 hgo h
set_option maxHeartbeats 4000000 in
theorem f_Mo_readWhats_108 {x1 : Int32} {x2 : Int32} {x3 : Int32} {x4 : Int64} {x6 : Int64} {σ σ' : am_S} {r : Int32} {go : Int32 → Int32 → Int32 → am_S → Option (Int32 × am_S)} (hgo : ∀ {x1 : Int32} {x2 : Int32} {x3 : Int32} {σ σ' : am_S} {r : Int32}, go x1 x2 x3 σ = some (r, σ') → FR [(0, 6), (0, 8)] [29] σ σ') (h : g_Mo_readWhats_108 go x1 x2 x3 x4 x6 σ = some (r, σ')) : FR [(0, 6), (0, 8)] [29] σ σ' := by
  unfold g_Mo_readWhats_108 at h
  obtain ⟨_, h⟩ := gd_some h
  by_cases c10 : (lg_cmp x4 1) = 0
  · rw [if_pos c10] at h
    by_cases c13 : x2 = (-1)
    · rw [if_pos c13] at h
      exact fr_tr (fr_ai fr_rf (List.mem_of_getElem? (i := 0) rfl)) (f_Mo_readWhats_134 hgo h)
    · rw [if_neg c13] at h
      exact fr_tr (fr_ai fr_rf (List.mem_of_getElem? (i := 0) rfl)) (f_Mo_readWhats_133 hgo h)
  · rw [if_neg c10] at h
    exact fr_tr (fr_ai fr_rf (List.mem_of_getElem? (i := 0) rfl)) (f_Mo_readWhats_133 hgo h)
set_option maxHeartbeats 4000000 in
theorem f_Mo_readWhats_75 {x1 : Int32} {x2 : Int32} {x3 : Int32} {x4 : Int64} {x6 : Int64} {σ σ' : am_S} {r : Int32} {go : Int32 → Int32 → Int32 → am_S → Option (Int32 × am_S)} (hgo : ∀ {x1 : Int32} {x2 : Int32} {x3 : Int32} {σ σ' : am_S} {r : Int32}, go x1 x2 x3 σ = some (r, σ') → FR [(0, 6), (0, 8)] [29] σ σ') (h : g_Mo_readWhats_75 go x1 x2 x3 x4 x6 σ = some (r, σ')) : FR [(0, 6), (0, 8)] [29] σ σ' := by
  unfold g_Mo_readWhats_75 at h
  by_cases c4 : (lg_cmp x4 1) = 0
  · rw [if_pos c4] at h
    by_cases c7 : x2 = (-1)
    · rw [if_pos c7] at h
      by_cases c11 : (lg_cmp x6 8) = 0
      · rw [if_pos c11] at h
        exact f_Mo_readWhats_108 hgo h
      · rw [if_neg c11] at h
        by_cases c15 : (lg_cmp x6 31) = 0
        · rw [if_pos c15] at h
          exact f_Mo_readWhats_108 hgo h
        · rw [if_neg c15] at h
          exact f_Mo_readWhats_105 h
    · rw [if_neg c7] at h
      exact f_Mo_readWhats_108 hgo h
  · rw [if_neg c4] at h
    exact f_Mo_readWhats_108 hgo h
set_option maxHeartbeats 4000000 in
theorem f_Mo_readWhats_4 : ∀ (n : Nat) {x1 : Int32} {x2 : Int32} {x3 : Int32} {σ σ' : am_S} {r : Int32} (h : g_Mo_readWhats_4 n x1 x2 x3 σ = some (r, σ')), FR [(0, 6), (0, 8)] [29] σ σ' := by
  intro n
  induction n with
  | zero =>
    intro x1 x2 x3 σ σ' r h
    cases h
  | succ n ih =>
  intro x1 x2 x3 σ σ' r h
  unfold g_Mo_readWhats_4 at h
  by_cases c3 : x3 < x1
  · rw [if_pos c3] at h
    obtain ⟨v6, σ6, e6, h⟩ := am_bd_some h
    have f6 : FR [(0, 6), (0, 8)] [29] σ σ6 := fr_up (f_Mo_leb e6) (fun _ h9 => h9) (by decide)
    obtain ⟨v10, σ10, e10, h⟩ := am_bd_some h
    have f10 : FR [(0, 6), (0, 8)] [29] σ σ10 := fr_tr f6 (fr_up (f_Mo_leb e10) (fun _ h9 => h9) (by decide))
    by_cases c14 : (σ10.1.1 0 8) = 0
    · rw [if_pos c14] at h
      by_cases c18 : (lg_cmp v10 8) = 0
      · rw [if_pos c18] at h
        exact fr_tr f10 (f_Mo_readWhats_75 (fun h => ih h) h)
      · rw [if_neg c18] at h
        by_cases c22 : (lg_cmp v10 31) = 0
        · rw [if_pos c22] at h
          exact fr_tr f10 (f_Mo_readWhats_75 (fun h => ih h) h)
        · rw [if_neg c22] at h
          by_cases c26 : (lg_cmp v10 11) = 0
          · rw [if_pos c26] at h
            exact fr_tr f10 (f_Mo_readWhats_75 (fun h => ih h) h)
          · rw [if_neg c26] at h
            by_cases c30 : (lg_cmp v10 5) = 0
            · rw [if_pos c30] at h
              exact fr_tr f10 (f_Mo_readWhats_75 (fun h => ih h) h)
            · rw [if_neg c30] at h
              by_cases c34 : (lg_cmp v10 15) = 0
              · rw [if_pos c34] at h
                exact fr_tr f10 (f_Mo_readWhats_75 (fun h => ih h) h)
              · rw [if_neg c34] at h
                exact fr_tr f10 (f_Mo_readWhats_105 h)
    · rw [if_neg c14] at h
      exact fr_tr f10 (f_Mo_readWhats_105 h)
  · rw [if_neg c3] at h
    exact fr_lf fr_rf h
set_option maxHeartbeats 4000000 in
theorem f_Mo_readWhats_0 {x1 : Int32} {σ σ' : am_S} {r : Int32} (h : g_Mo_readWhats x1 σ = some (r, σ')) : FR [(0, 6), (0, 8)] [29] σ σ' := by
  unfold g_Mo_readWhats at h
  exact f_Mo_readWhats_4 4000 h
theorem f_Mo_readWhats {x1 : Int32} {σ σ' : am_S} {r : Int32} (h : g_Mo_readWhats x1 σ = some (r, σ')) : FR [(0, 6), (0, 8)] [29] σ σ' := f_Mo_readWhats_0 h
