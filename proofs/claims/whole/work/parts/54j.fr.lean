set_option maxHeartbeats 4000000 in
theorem f_Mo_readEntries_267 {x1 : Int32} {x2 : Int32} {σ σ' : am_S} {r : Int32} {go : Int32 → Int32 → am_S → Option (Int32 × am_S)} (hgo : ∀ {x1 : Int32} {x2 : Int32} {σ σ' : am_S} {r : Int32}, go x1 x2 σ = some (r, σ') → FR [(0, 22), (0, 23), (0, 6), (0, 8)] [15, 16, 17, 18, 19, 20, 21] σ σ') (h : g_Mo_readEntries_267 go x1 x2 σ = some (r, σ')) : FR [(0, 22), (0, 23), (0, 6), (0, 8)] [15, 16, 17, 18, 19, 20, 21] σ σ' := by
  unfold g_Mo_readEntries_267 at h
  exact hgo h
set_option maxHeartbeats 4000000 in
theorem f_Mo_readEntries_91 {x1 : Int32} {y0 : Int32} {σ σ' : am_S} {r : Int32} {go : Int32 → Int32 → am_S → Option (Int32 × am_S)} (hgo : ∀ {x1 : Int32} {x2 : Int32} {σ σ' : am_S} {r : Int32}, go x1 x2 σ = some (r, σ') → FR [(0, 22), (0, 23), (0, 6), (0, 8)] [15, 16, 17, 18, 19, 20, 21] σ σ') (h : g_Mo_readEntries_91 go x1 y0 σ = some (r, σ')) : FR [(0, 22), (0, 23), (0, 6), (0, 8)] [15, 16, 17, 18, 19, 20, 21] σ σ' := by
  unfold g_Mo_readEntries_91 at h
  exact fr_tr (fr_fi fr_rf (List.mem_of_getElem? (i := 1) rfl)) (f_Mo_readEntries_267 hgo h)
set_option maxHeartbeats 4000000 in
theorem f_Mo_readEntries_228 {x1 : Int32} {x2 : Int32} {x6 : Int32} {σ σ' : am_S} {r : Int32} {go : Int32 → Int32 → am_S → Option (Int32 × am_S)} (hgo : ∀ {x1 : Int32} {x2 : Int32} {σ σ' : am_S} {r : Int32}, go x1 x2 σ = some (r, σ') → FR [(0, 22), (0, 23), (0, 6), (0, 8)] [15, 16, 17, 18, 19, 20, 21] σ σ') (h : g_Mo_readEntries_228 go x1 x2 x6 σ = some (r, σ')) : FR [(0, 22), (0, 23), (0, 6), (0, 8)] [15, 16, 17, 18, 19, 20, 21] σ σ' := by
  unfold g_Mo_readEntries_228 at h
  by_cases c2 : x2 = 0
  · rw [if_pos c2] at h
    exact f_Mo_readEntries_267 hgo h
  · rw [if_neg c2] at h
    obtain ⟨_, h⟩ := gd_some h
    by_cases c7 : (σ.2.1 10 x6.toNatClampNeg) = 0
    · rw [if_pos c7] at h
      exact f_Mo_readEntries_267 hgo h
    · rw [if_neg c7] at h
      obtain ⟨_, h⟩ := gd_some h
      exact fr_tr (fr_fi (fr_ai fr_rf (List.mem_of_getElem? (i := 0) rfl)) (List.mem_of_getElem? (i := 1) rfl)) (f_Mo_readEntries_267 hgo h)
set_option maxHeartbeats 4000000 in
theorem f_Mo_readEntries_227 {x1 : Int32} {x6 : Int32} {y0 : Int32} {σ σ' : am_S} {r : Int32} {go : Int32 → Int32 → am_S → Option (Int32 × am_S)} (hgo : ∀ {x1 : Int32} {x2 : Int32} {σ σ' : am_S} {r : Int32}, go x1 x2 σ = some (r, σ') → FR [(0, 22), (0, 23), (0, 6), (0, 8)] [15, 16, 17, 18, 19, 20, 21] σ σ') (h : g_Mo_readEntries_227 go x1 x6 y0 σ = some (r, σ')) : FR [(0, 22), (0, 23), (0, 6), (0, 8)] [15, 16, 17, 18, 19, 20, 21] σ σ' := by
  unfold g_Mo_readEntries_227 at h
  exact f_Mo_readEntries_228 hgo h
set_option maxHeartbeats 4000000 in
theorem f_Mo_readEntries_222 {x1 : Int32} {x6 : Int32} {σ σ' : am_S} {r : Int32} {go : Int32 → Int32 → am_S → Option (Int32 × am_S)} (hgo : ∀ {x1 : Int32} {x2 : Int32} {σ σ' : am_S} {r : Int32}, go x1 x2 σ = some (r, σ') → FR [(0, 22), (0, 23), (0, 6), (0, 8)] [15, 16, 17, 18, 19, 20, 21] σ σ') (h : g_Mo_readEntries_222 go x1 x6 σ = some (r, σ')) : FR [(0, 22), (0, 23), (0, 6), (0, 8)] [15, 16, 17, 18, 19, 20, 21] σ σ' := by
  unfold g_Mo_readEntries_222 at h
  exact f_Mo_readEntries_227 hgo h
set_option maxHeartbeats 4000000 in
theorem f_Mo_readEntries_226 {x1 : Int32} {x6 : Int32} {σ σ' : am_S} {r : Int32} {go : Int32 → Int32 → am_S → Option (Int32 × am_S)} (hgo : ∀ {x1 : Int32} {x2 : Int32} {σ σ' : am_S} {r : Int32}, go x1 x2 σ = some (r, σ') → FR [(0, 22), (0, 23), (0, 6), (0, 8)] [15, 16, 17, 18, 19, 20, 21] σ σ') (h : g_Mo_readEntries_226 go x1 x6 σ = some (r, σ')) : FR [(0, 22), (0, 23), (0, 6), (0, 8)] [15, 16, 17, 18, 19, 20, 21] σ σ' := by
  unfold g_Mo_readEntries_226 at h
  exact f_Mo_readEntries_227 hgo h
set_option maxHeartbeats 4000000 in
theorem f_Mo_readEntries_184 {x1 : Int32} {x3 : Int32} {x6 : Int32} {y0 : Int32} {σ σ' : am_S} {r : Int32} {go : Int32 → Int32 → am_S → Option (Int32 × am_S)} (hgo : ∀ {x1 : Int32} {x2 : Int32} {σ σ' : am_S} {r : Int32}, go x1 x2 σ = some (r, σ') → FR [(0, 22), (0, 23), (0, 6), (0, 8)] [15, 16, 17, 18, 19, 20, 21] σ σ') (h : g_Mo_readEntries_184 go x1 x3 x6 y0 σ = some (r, σ')) : FR [(0, 22), (0, 23), (0, 6), (0, 8)] [15, 16, 17, 18, 19, 20, 21] σ σ' := by
  unfold g_Mo_readEntries_184 at h
  by_cases c3 : y0 = 0
  · rw [if_pos c3] at h
    exact f_Mo_readEntries_228 hgo h
  · rw [if_neg c3] at h
    obtain ⟨v7, σ7, e7, h⟩ := am_bd_some h
    have f7 : FR [(0, 22), (0, 23), (0, 6), (0, 8)] [15, 16, 17, 18, 19, 20, 21] σ σ7 := fr_up (f_Mo_readEntry e7) (by decide) (by decide)
    by_cases c10 : (σ7.1.1 0 8) = 0
    · rw [if_pos c10] at h
      obtain ⟨_, h⟩ := gd_some h
      by_cases c15 : (σ7.2.1 10 x6.toNatClampNeg) = 0
      · rw [if_pos c15] at h
        exact fr_tr f7 (f_Mo_readEntries_222 hgo h)
      · rw [if_neg c15] at h
        by_cases c19 : (σ7.1.1 0 23) < 16
        · rw [if_pos c19] at h
          exact fr_tr f7 (f_Mo_readEntries_222 hgo h)
        · rw [if_neg c19] at h
          exact fr_tr f7 (f_Mo_readEntries_226 hgo h)
    · rw [if_neg c10] at h
      exact fr_tr f7 (f_Mo_readEntries_226 hgo h)
set_option maxHeartbeats 4000000 in
theorem f_Mo_readEntries_179 {x1 : Int32} {x3 : Int32} {x6 : Int32} {σ σ' : am_S} {r : Int32} {go : Int32 → Int32 → am_S → Option (Int32 × am_S)} (hgo : ∀ {x1 : Int32} {x2 : Int32} {σ σ' : am_S} {r : Int32}, go x1 x2 σ = some (r, σ') → FR [(0, 22), (0, 23), (0, 6), (0, 8)] [15, 16, 17, 18, 19, 20, 21] σ σ') (h : g_Mo_readEntries_179 go x1 x3 x6 σ = some (r, σ')) : FR [(0, 22), (0, 23), (0, 6), (0, 8)] [15, 16, 17, 18, 19, 20, 21] σ σ' := by
  unfold g_Mo_readEntries_179 at h
  exact f_Mo_readEntries_184 hgo h
set_option maxHeartbeats 4000000 in
theorem f_Mo_readEntries_183 {x1 : Int32} {x3 : Int32} {x6 : Int32} {σ σ' : am_S} {r : Int32} {go : Int32 → Int32 → am_S → Option (Int32 × am_S)} (hgo : ∀ {x1 : Int32} {x2 : Int32} {σ σ' : am_S} {r : Int32}, go x1 x2 σ = some (r, σ') → FR [(0, 22), (0, 23), (0, 6), (0, 8)] [15, 16, 17, 18, 19, 20, 21] σ σ') (h : g_Mo_readEntries_183 go x1 x3 x6 σ = some (r, σ')) : FR [(0, 22), (0, 23), (0, 6), (0, 8)] [15, 16, 17, 18, 19, 20, 21] σ σ' := by
  unfold g_Mo_readEntries_183 at h
  exact f_Mo_readEntries_184 hgo h
set_option maxHeartbeats 4000000 in
theorem f_Mo_readEntries_118 {x1 : Int32} {x3 : Int32} {x6 : Int32} {y0 : Int32} {σ σ' : am_S} {r : Int32} {go : Int32 → Int32 → am_S → Option (Int32 × am_S)} (hgo : ∀ {x1 : Int32} {x2 : Int32} {σ σ' : am_S} {r : Int32}, go x1 x2 σ = some (r, σ') → FR [(0, 22), (0, 23), (0, 6), (0, 8)] [15, 16, 17, 18, 19, 20, 21] σ σ') (h : g_Mo_readEntries_118 go x1 x3 x6 y0 σ = some (r, σ')) : FR [(0, 22), (0, 23), (0, 6), (0, 8)] [15, 16, 17, 18, 19, 20, 21] σ σ' := by
  unfold g_Mo_readEntries_118 at h
  by_cases c4 : x6 = (-1)
  · rw [if_pos c4] at h
    exact f_Mo_readEntries_183 hgo h
  · rw [if_neg c4] at h
    by_cases c8 : (σ.1.1 0 22) < 200
    · rw [if_pos c8] at h
      by_cases c10 : y0 = 0
      · rw [if_pos c10] at h
        by_cases c13 : 0 < (σ.1.1 0 23)
        · rw [if_pos c13] at h
          obtain ⟨_, h⟩ := gd_some h
          by_cases c20 : (lg_cmp (σ.2.2 7 x6.toNatClampNeg) 17) = 0
          · rw [if_pos c20] at h
            exact f_Mo_readEntries_183 hgo h
          · rw [if_neg c20] at h
            exact f_Mo_readEntries_179 hgo h
        · rw [if_neg c13] at h
          exact f_Mo_readEntries_183 hgo h
      · rw [if_neg c10] at h
        obtain ⟨_, h⟩ := gd_some h
        by_cases c17 : (lg_cmp (σ.2.2 7 x6.toNatClampNeg) 17) = 0
        · rw [if_pos c17] at h
          exact f_Mo_readEntries_179 hgo h
        · rw [if_neg c17] at h
          exact f_Mo_readEntries_183 hgo h
    · rw [if_neg c8] at h
      exact f_Mo_readEntries_183 hgo h
set_option maxHeartbeats 4000000 in
theorem f_Mo_readEntries_105 {x1 : Int32} {x3 : Int32} {x6 : Int32} {σ σ' : am_S} {r : Int32} {go : Int32 → Int32 → am_S → Option (Int32 × am_S)} (hgo : ∀ {x1 : Int32} {x2 : Int32} {σ σ' : am_S} {r : Int32}, go x1 x2 σ = some (r, σ') → FR [(0, 22), (0, 23), (0, 6), (0, 8)] [15, 16, 17, 18, 19, 20, 21] σ σ') (h : g_Mo_readEntries_105 go x1 x3 x6 σ = some (r, σ')) : FR [(0, 22), (0, 23), (0, 6), (0, 8)] [15, 16, 17, 18, 19, 20, 21] σ σ' := by
  unfold g_Mo_readEntries_105 at h
  by_cases c4 : (σ.1.1 0 22) = x1
  · rw [if_pos c4] at h
    exact f_Mo_readEntries_118 hgo h
  · rw [if_neg c4] at h
    exact f_Mo_readEntries_118 hgo h
set_option maxHeartbeats 4000000 in
theorem f_Mo_readEntries_63 {x1 : Int32} {x3 : Int32} {x4 : Int64} {y0 : Int32} {σ σ' : am_S} {r : Int32} {go : Int32 → Int32 → am_S → Option (Int32 × am_S)} (hgo : ∀ {x1 : Int32} {x2 : Int32} {σ σ' : am_S} {r : Int32}, go x1 x2 σ = some (r, σ') → FR [(0, 22), (0, 23), (0, 6), (0, 8)] [15, 16, 17, 18, 19, 20, 21] σ σ') (h : g_Mo_readEntries_63 go x1 x3 x4 y0 σ = some (r, σ')) : FR [(0, 22), (0, 23), (0, 6), (0, 8)] [15, 16, 17, 18, 19, 20, 21] σ σ' := by
  unfold g_Mo_readEntries_63 at h
  by_cases c4 : (σ.1.1 0 8) = 0
  · rw [if_pos c4] at h
    by_cases c8 : (lg_cmp x4 0) = 0
    · rw [if_pos c8] at h
      by_cases c11 : 0 < (σ.1.1 0 23)
      · rw [if_pos c11] at h
        exact f_Mo_readEntries_91 hgo h
      · rw [if_neg c11] at h
        exact f_Mo_readEntries_91 hgo h
    · rw [if_neg c8] at h
      exact f_Mo_readEntries_105 hgo h
  · rw [if_neg c4] at h
    exact f_Mo_readEntries_105 hgo h
set_option maxHeartbeats 4000000 in
theorem f_Mo_readEntries_53 {x1 : Int32} {x3 : Int32} {x4 : Int64} {σ σ' : am_S} {r : Int32} {go : Int32 → Int32 → am_S → Option (Int32 × am_S)} (hgo : ∀ {x1 : Int32} {x2 : Int32} {σ σ' : am_S} {r : Int32}, go x1 x2 σ = some (r, σ') → FR [(0, 22), (0, 23), (0, 6), (0, 8)] [15, 16, 17, 18, 19, 20, 21] σ σ') (h : g_Mo_readEntries_53 go x1 x3 x4 σ = some (r, σ')) : FR [(0, 22), (0, 23), (0, 6), (0, 8)] [15, 16, 17, 18, 19, 20, 21] σ σ' := by
  unfold g_Mo_readEntries_53 at h
  exact f_Mo_readEntries_63 hgo h
set_option maxHeartbeats 4000000 in
theorem f_Mo_readEntries_301 {y0 : Int32} {σ σ' : am_S} {r : Int32} (h : g_Mo_readEntries_301 y0 σ = some (r, σ')) : FR [(0, 22), (0, 23), (0, 6), (0, 8)] [15, 16, 17, 18, 19, 20, 21] σ σ' := by
  unfold g_Mo_readEntries_301 at h
  obtain ⟨_, h⟩ := gd_some h
  exact fr_lf fr_rf h
set_option maxHeartbeats 4000000 in
theorem f_Mo_readEntries_300 {σ σ' : am_S} {r : Int32} (h : g_Mo_readEntries_300 σ = some (r, σ')) : FR [(0, 22), (0, 23), (0, 6), (0, 8)] [15, 16, 17, 18, 19, 20, 21] σ σ' := by
  unfold g_Mo_readEntries_300 at h
  exact f_Mo_readEntries_301 h
set_option maxHeartbeats 4000000 in
theorem f_Mo_readEntries_270 {x1 : Int32} {x2 : Int32} {σ σ' : am_S} {r : Int32} (h : g_Mo_readEntries_270 x1 x2 σ = some (r, σ')) : FR [(0, 22), (0, 23), (0, 6), (0, 8)] [15, 16, 17, 18, 19, 20, 21] σ σ' := by
  unfold g_Mo_readEntries_270 at h
  by_cases c2 : x2 = 0
  · rw [if_pos c2] at h
    exact f_Mo_readEntries_300 h
  · rw [if_neg c2] at h
    by_cases c5 : (σ.1.1 0 8) = 0
    · rw [if_pos c5] at h
      by_cases c9 : x1 < (σ.1.1 0 22)
      · rw [if_pos c9] at h
        by_cases c12 : (σ.1.1 0 23) = 0
        · rw [if_pos c12] at h
          exact f_Mo_readEntries_301 h
        · rw [if_neg c12] at h
          exact f_Mo_readEntries_300 h
      · rw [if_neg c9] at h
        exact f_Mo_readEntries_300 h
    · rw [if_neg c5] at h
      exact f_Mo_readEntries_300 h
set_option maxHeartbeats 4000000 in
theorem f_Mo_readEntries_12 : ∀ (n : Nat) {x1 : Int32} {x2 : Int32} {σ σ' : am_S} {r : Int32} (h : g_Mo_readEntries_12 n x1 x2 σ = some (r, σ')), FR [(0, 22), (0, 23), (0, 6), (0, 8)] [15, 16, 17, 18, 19, 20, 21] σ σ' := by
  intro n
  induction n with
  | zero =>
    intro x1 x2 σ σ' r h
    cases h
  | succ n ih =>
  intro x1 x2 σ σ' r h
  unfold g_Mo_readEntries_12 at h
  by_cases c2 : x2 = 0
  · rw [if_pos c2] at h
    exact f_Mo_readEntries_270 h
  · rw [if_neg c2] at h
    by_cases c7 : (σ.1.1 0 6) < (σ.1.1 0 7)
    · rw [if_pos c7] at h
      obtain ⟨v13, σ13, e13, h⟩ := am_bd_some h
      have f13 : FR [(0, 22), (0, 23), (0, 6), (0, 8)] [15, 16, 17, 18, 19, 20, 21] σ σ13 := fr_up (f_Mo_leb e13) (by decide) (by decide)
      by_cases c17 : (σ13.1.1 0 8) = 0
      · rw [if_pos c17] at h
        by_cases c21 : (lg_cmp v13 0) = 0
        · rw [if_pos c21] at h
          exact fr_tr f13 (f_Mo_readEntries_53 (fun h => ih h) h)
        · rw [if_neg c21] at h
          obtain ⟨v24, σ24, e24, h⟩ := am_bd_some h
          have f24 : FR [(0, 22), (0, 23), (0, 6), (0, 8)] [15, 16, 17, 18, 19, 20, 21] σ σ24 := fr_tr f13 (fr_up (f_Mo_abbreviation e24) (fun _ h9 => (by cases h9)) (fun _ h9 => (by cases h9)))
          exact fr_tr f24 (f_Mo_readEntries_63 (fun h => ih h) h)
      · rw [if_neg c17] at h
        exact fr_tr f13 (f_Mo_readEntries_53 (fun h => ih h) h)
    · rw [if_neg c7] at h
      exact f_Mo_readEntries_270 h
set_option maxHeartbeats 4000000 in
theorem f_Mo_readEntries_0 {σ σ' : am_S} {r : Int32} (h : g_Mo_readEntries σ = some (r, σ')) : FR [(0, 22), (0, 23), (0, 6), (0, 8)] [15, 16, 17, 18, 19, 20, 21] σ σ' := by
  unfold g_Mo_readEntries at h
  exact fr_tr (fr_fi fr_rf (List.mem_of_getElem? (i := 1) rfl)) (f_Mo_readEntries_12 4000 h)
theorem f_Mo_readEntries {σ σ' : am_S} {r : Int32} (h : g_Mo_readEntries σ = some (r, σ')) : FR [(0, 22), (0, 23), (0, 6), (0, 8)] [15, 16, 17, 18, 19, 20, 21] σ σ' := f_Mo_readEntries_0 h
set_option maxHeartbeats 4000000 in
theorem f_Mo_readUnit_78 {σ σ' : am_S} {r : Int32} (h : g_Mo_readUnit_78 σ = some (r, σ')) : FR [(0, 13), (0, 21), (0, 22), (0, 23), (0, 6), (0, 7), (0, 8)] [6, 7, 8, 9, 10, 11, 12, 13, 14, 15, 16, 17, 18, 19, 20, 21] σ σ' := by
  unfold g_Mo_readUnit_78 at h
  exact fr_lf fr_rf h
set_option maxHeartbeats 4000000 in
theorem f_Mo_readUnit_0 {x1 : Int32} {σ σ' : am_S} {r : Int32} (h : g_Mo_readUnit x1 σ = some (r, σ')) : FR [(0, 13), (0, 21), (0, 22), (0, 23), (0, 6), (0, 7), (0, 8)] [6, 7, 8, 9, 10, 11, 12, 13, 14, 15, 16, 17, 18, 19, 20, 21] σ σ' := by
  unfold g_Mo_readUnit at h
  obtain ⟨v6, σ6, e6, h⟩ := am_bd_some h
  have f6 : FR [(0, 13), (0, 21), (0, 22), (0, 23), (0, 6), (0, 7), (0, 8)] [6, 7, 8, 9, 10, 11, 12, 13, 14, 15, 16, 17, 18, 19, 20, 21] σ σ6 := fr_up (f_Mo_u e6) (by decide) (by decide)
  obtain ⟨v10, σ10, e10, h⟩ := am_bd_some h
  have f10 : FR [(0, 13), (0, 21), (0, 22), (0, 23), (0, 6), (0, 7), (0, 8)] [6, 7, 8, 9, 10, 11, 12, 13, 14, 15, 16, 17, 18, 19, 20, 21] σ σ10 := fr_tr f6 (fr_up (f_Mo_u e10) (by decide) (by decide))
  obtain ⟨v14, σ14, e14, h⟩ := am_bd_some h
  have f14 : FR [(0, 13), (0, 21), (0, 22), (0, 23), (0, 6), (0, 7), (0, 8)] [6, 7, 8, 9, 10, 11, 12, 13, 14, 15, 16, 17, 18, 19, 20, 21] σ σ14 := fr_tr f10 (fr_up (f_Mo_u e14) (by decide) (by decide))
  obtain ⟨v18, σ18, e18, h⟩ := am_bd_some h
  have f18 : FR [(0, 13), (0, 21), (0, 22), (0, 23), (0, 6), (0, 7), (0, 8)] [6, 7, 8, 9, 10, 11, 12, 13, 14, 15, 16, 17, 18, 19, 20, 21] σ σ18 := fr_tr f14 (fr_up (f_Mo_u e18) (by decide) (by decide))
  by_cases c25 : (σ18.1.1 0 8) = 0
  · rw [if_pos c25] at h
    by_cases c29 : (lg_cmp v6 5) = 0
    · rw [if_pos c29] at h
      by_cases c33 : (lg_cmp v10 1) = 0
      · rw [if_pos c33] at h
        by_cases c37 : (lg_cmp v14 8) = 0
        · rw [if_pos c37] at h
          obtain ⟨v40, σ40, e40, h⟩ := am_bd_some h
          have f40 : FR [(0, 13), (0, 21), (0, 22), (0, 23), (0, 6), (0, 7), (0, 8)] [6, 7, 8, 9, 10, 11, 12, 13, 14, 15, 16, 17, 18, 19, 20, 21] σ σ40 := fr_tr f18 (fr_up (f_Mo_readAbbreviations e40) (by decide) (by decide))
          by_cases c41 : v40 = 0
          · rw [if_pos c41] at h
            exact fr_tr f40 (f_Mo_readUnit_78 h)
          · rw [if_neg c41] at h
            obtain ⟨_, h⟩ := gd_some h
            obtain ⟨_, h⟩ := gd_some h
            obtain ⟨v71, σ71, e71, h⟩ := am_bd_some h
            have f71 : FR [(0, 13), (0, 21), (0, 22), (0, 23), (0, 6), (0, 7), (0, 8)] [6, 7, 8, 9, 10, 11, 12, 13, 14, 15, 16, 17, 18, 19, 20, 21] σ σ71 := fr_tr (fr_fi (fr_ai (fr_ai (fr_fi (fr_fi (fr_fi f40 (List.mem_of_getElem? (i := 4) rfl)) (List.mem_of_getElem? (i := 5) rfl)) (List.mem_of_getElem? (i := 6) rfl)) (List.mem_of_getElem? (i := 7) rfl)) (List.mem_of_getElem? (i := 8) rfl)) (List.mem_of_getElem? (i := 1) rfl)) (fr_up (f_Mo_readEntries e71) (by decide) (by decide))
            obtain ⟨_, h⟩ := gd_some h
            exact fr_lf f71 h
        · rw [if_neg c37] at h
          exact fr_tr f18 (f_Mo_readUnit_78 h)
      · rw [if_neg c33] at h
        exact fr_tr f18 (f_Mo_readUnit_78 h)
    · rw [if_neg c29] at h
      exact fr_tr f18 (f_Mo_readUnit_78 h)
  · rw [if_neg c25] at h
    exact fr_tr f18 (f_Mo_readUnit_78 h)
theorem f_Mo_readUnit {x1 : Int32} {σ σ' : am_S} {r : Int32} (h : g_Mo_readUnit x1 σ = some (r, σ')) : FR [(0, 13), (0, 21), (0, 22), (0, 23), (0, 6), (0, 7), (0, 8)] [6, 7, 8, 9, 10, 11, 12, 13, 14, 15, 16, 17, 18, 19, 20, 21] σ σ' := f_Mo_readUnit_0 h
set_option maxHeartbeats 4000000 in
theorem f_Mo_readUnits_115 {x1 : Int32} {x2 : Int32} {x3 : Int32} {σ σ' : am_S} {r : Int32} {go : Int32 → Int32 → Int32 → am_S → Option (Int32 × am_S)} (hgo : ∀ {x1 : Int32} {x2 : Int32} {x3 : Int32} {σ σ' : am_S} {r : Int32}, go x1 x2 x3 σ = some (r, σ') → FR [(0, 13), (0, 21), (0, 22), (0, 23), (0, 6), (0, 7), (0, 8)] [6, 7, 8, 9, 10, 11, 12, 13, 14, 15, 16, 17, 18, 19, 20, 21] σ σ') (h : g_Mo_readUnits_115 go x1 x2 x3 σ = some (r, σ')) : FR [(0, 13), (0, 21), (0, 22), (0, 23), (0, 6), (0, 7), (0, 8)] [6, 7, 8, 9, 10, 11, 12, 13, 14, 15, 16, 17, 18, 19, 20, 21] σ σ' := by
  unfold g_Mo_readUnits_115 at h
  exact hgo h
set_option maxHeartbeats 4000000 in
theorem f_Mo_readUnits_87 {x1 : Int32} {x2 : Int32} {x4 : Int64} {y0 : Int32} {σ σ' : am_S} {r : Int32} {go : Int32 → Int32 → Int32 → am_S → Option (Int32 × am_S)} (hgo : ∀ {x1 : Int32} {x2 : Int32} {x3 : Int32} {σ σ' : am_S} {r : Int32}, go x1 x2 x3 σ = some (r, σ') → FR [(0, 13), (0, 21), (0, 22), (0, 23), (0, 6), (0, 7), (0, 8)] [6, 7, 8, 9, 10, 11, 12, 13, 14, 15, 16, 17, 18, 19, 20, 21] σ σ') (h : g_Mo_readUnits_87 go x1 x2 x4 y0 σ = some (r, σ')) : FR [(0, 13), (0, 21), (0, 22), (0, 23), (0, 6), (0, 7), (0, 8)] [6, 7, 8, 9, 10, 11, 12, 13, 14, 15, 16, 17, 18, 19, 20, 21] σ σ' := by
  unfold g_Mo_readUnits_87 at h
  by_cases c3 : y0 = 0
  · rw [if_pos c3] at h
    exact f_Mo_readUnits_115 hgo h
  · rw [if_neg c3] at h
    obtain ⟨v13, σ13, e13, h⟩ := am_bd_some h
    have f13 : FR [(0, 13), (0, 21), (0, 22), (0, 23), (0, 6), (0, 7), (0, 8)] [6, 7, 8, 9, 10, 11, 12, 13, 14, 15, 16, 17, 18, 19, 20, 21] σ σ13 := fr_tr (fr_fi fr_rf (List.mem_of_getElem? (i := 5) rfl)) (f_Mo_readUnit e13)
    exact fr_tr f13 (f_Mo_readUnits_115 hgo h)
set_option maxHeartbeats 4000000 in
theorem f_Mo_readUnits_86 {x1 : Int32} {x2 : Int32} {x4 : Int64} {σ σ' : am_S} {r : Int32} {go : Int32 → Int32 → Int32 → am_S → Option (Int32 × am_S)} (hgo : ∀ {x1 : Int32} {x2 : Int32} {x3 : Int32} {σ σ' : am_S} {r : Int32}, go x1 x2 x3 σ = some (r, σ') → FR [(0, 13), (0, 21), (0, 22), (0, 23), (0, 6), (0, 7), (0, 8)] [6, 7, 8, 9, 10, 11, 12, 13, 14, 15, 16, 17, 18, 19, 20, 21] σ σ') (h : g_Mo_readUnits_86 go x1 x2 x4 σ = some (r, σ')) : FR [(0, 13), (0, 21), (0, 22), (0, 23), (0, 6), (0, 7), (0, 8)] [6, 7, 8, 9, 10, 11, 12, 13, 14, 15, 16, 17, 18, 19, 20, 21] σ σ' := by
  unfold g_Mo_readUnits_86 at h
  exact f_Mo_readUnits_87 hgo h
set_option maxHeartbeats 4000000 in
theorem f_Mo_readUnits_118 {x3 : Int32} {σ σ' : am_S} {r : Int32} (h : g_Mo_readUnits_118 x3 σ = some (r, σ')) : FR [(0, 13), (0, 21), (0, 22), (0, 23), (0, 6), (0, 7), (0, 8)] [6, 7, 8, 9, 10, 11, 12, 13, 14, 15, 16, 17, 18, 19, 20, 21] σ σ' := by
  unfold g_Mo_readUnits_118 at h
  obtain ⟨_, h⟩ := gd_some h
  exact fr_lf fr_rf h
set_option maxHeartbeats 4000000 in
theorem f_Mo_readUnits_23 : ∀ (n : Nat) {x1 : Int32} {x2 : Int32} {x3 : Int32} {σ σ' : am_S} {r : Int32} (h : g_Mo_readUnits_23 n x1 x2 x3 σ = some (r, σ')), FR [(0, 13), (0, 21), (0, 22), (0, 23), (0, 6), (0, 7), (0, 8)] [6, 7, 8, 9, 10, 11, 12, 13, 14, 15, 16, 17, 18, 19, 20, 21] σ σ' := by
  intro n
  induction n with
  | zero =>
    intro x1 x2 x3 σ σ' r h
    cases h
  | succ n ih =>
  intro x1 x2 x3 σ σ' r h
  unfold g_Mo_readUnits_23 at h
  by_cases c2 : x3 = 0
  · rw [if_pos c2] at h
    exact f_Mo_readUnits_118 h
  · rw [if_neg c2] at h
    by_cases c5 : x2 < x1
    · rw [if_pos c5] at h
      obtain ⟨v17, σ17, e17, h⟩ := am_bd_some h
      have f17 : FR [(0, 13), (0, 21), (0, 22), (0, 23), (0, 6), (0, 7), (0, 8)] [6, 7, 8, 9, 10, 11, 12, 13, 14, 15, 16, 17, 18, 19, 20, 21] σ σ17 := fr_tr (fr_fi (fr_fi (fr_fi fr_rf (List.mem_of_getElem? (i := 4) rfl)) (List.mem_of_getElem? (i := 5) rfl)) (List.mem_of_getElem? (i := 6) rfl)) (fr_up (f_Mo_u e17) (by decide) (by decide))
      by_cases c22 : (σ17.1.1 0 21) < 4
      · rw [if_pos c22] at h
        by_cases c25 : (σ17.1.1 0 8) = 0
        · rw [if_pos c25] at h
          by_cases c33 : 0 < (lg_cmp v17 ((x1 - (σ17.1.1 0 6)).toInt64))
          · rw [if_pos c33] at h
            exact fr_tr f17 (f_Mo_readUnits_86 (fun h => ih h) h)
          · rw [if_neg c33] at h
            exact fr_tr f17 (f_Mo_readUnits_87 (fun h => ih h) h)
        · rw [if_neg c25] at h
          exact fr_tr f17 (f_Mo_readUnits_86 (fun h => ih h) h)
      · rw [if_neg c22] at h
        exact fr_tr f17 (f_Mo_readUnits_86 (fun h => ih h) h)
    · rw [if_neg c5] at h
      exact f_Mo_readUnits_118 h
set_option maxHeartbeats 4000000 in
theorem f_Mo_readUnits_0 {σ σ' : am_S} {r : Int32} (h : g_Mo_readUnits σ = some (r, σ')) : FR [(0, 13), (0, 21), (0, 22), (0, 23), (0, 6), (0, 7), (0, 8)] [6, 7, 8, 9, 10, 11, 12, 13, 14, 15, 16, 17, 18, 19, 20, 21] σ σ' := by
  unfold g_Mo_readUnits at h
  obtain ⟨_, h⟩ := gd_some h
  obtain ⟨_, h⟩ := gd_some h
  obtain ⟨_, h⟩ := gd_some h
  exact f_Mo_readUnits_23 4000 h
theorem f_Mo_readUnits {σ σ' : am_S} {r : Int32} (h : g_Mo_readUnits σ = some (r, σ')) : FR [(0, 13), (0, 21), (0, 22), (0, 23), (0, 6), (0, 7), (0, 8)] [6, 7, 8, 9, 10, 11, 12, 13, 14, 15, 16, 17, 18, 19, 20, 21] σ σ' := f_Mo_readUnits_0 h
set_option maxHeartbeats 4000000 in
theorem f_Mo_formAt_0 {x1 : Int32} {x2 : Int32} {σ σ' : am_S} {r : Int32} (h : g_Mo_formAt x1 x2 σ = some (r, σ')) : FR [] [] σ σ' := by
  unfold g_Mo_formAt at h
  obtain ⟨_, h⟩ := gd_some h
  exact fr_lf fr_rf h
theorem f_Mo_formAt {x1 : Int32} {x2 : Int32} {σ σ' : am_S} {r : Int32} (h : g_Mo_formAt x1 x2 σ = some (r, σ')) : FR [] [] σ σ' := f_Mo_formAt_0 h
set_option maxHeartbeats 4000000 in
theorem f_Mo_has_19 {y0 : Int32} {σ σ' : am_S} {r : Int32} (h : g_Mo_has_19 y0 σ = some (r, σ')) : FR [] [] σ σ' := by
  unfold g_Mo_has_19 at h
  obtain ⟨_, h⟩ := gd_some h
  exact fr_lf fr_rf h
set_option maxHeartbeats 4000000 in
theorem f_Mo_has_0 {x1 : Int32} {x2 : Int32} {σ σ' : am_S} {r : Int32} (h : g_Mo_has x1 x2 σ = some (r, σ')) : FR [] [] σ σ' := by
  unfold g_Mo_has at h
  obtain ⟨_, h⟩ := gd_some h
  by_cases c9 : 0 < (σ.2.1 20 ((11 * x1) + x2).toNatClampNeg)
  · rw [if_pos c9] at h
    exact f_Mo_has_19 h
  · rw [if_neg c9] at h
    exact f_Mo_has_19 h
theorem f_Mo_has {x1 : Int32} {x2 : Int32} {σ σ' : am_S} {r : Int32} (h : g_Mo_has x1 x2 σ = some (r, σ')) : FR [] [] σ σ' := f_Mo_has_0 h
set_option maxHeartbeats 4000000 in
theorem f_Mo_valueAt_0 {x1 : Int32} {x2 : Int32} {σ σ' : am_S} {r : Int64} (h : g_Mo_valueAt x1 x2 σ = some (r, σ')) : FR [] [] σ σ' := by
  unfold g_Mo_valueAt at h
  obtain ⟨_, h⟩ := gd_some h
  exact fr_lf fr_rf h
theorem f_Mo_valueAt {x1 : Int32} {x2 : Int32} {σ σ' : am_S} {r : Int64} (h : g_Mo_valueAt x1 x2 σ = some (r, σ')) : FR [] [] σ σ' := f_Mo_valueAt_0 h
set_option maxHeartbeats 4000000 in
theorem f_Mo_isConstant_52 {y0 : Int32} {σ σ' : am_S} {r : Int32} (h : g_Mo_isConstant_52 y0 σ = some (r, σ')) : FR [] [] σ σ' := by
  unfold g_Mo_isConstant_52 at h
  obtain ⟨_, h⟩ := gd_some h
  exact fr_lf fr_rf h
set_option maxHeartbeats 4000000 in
theorem f_Mo_isConstant_47 {σ σ' : am_S} {r : Int32} (h : g_Mo_isConstant_47 σ = some (r, σ')) : FR [] [] σ σ' := by
  unfold g_Mo_isConstant_47 at h
  exact f_Mo_isConstant_52 h
set_option maxHeartbeats 4000000 in
theorem f_Mo_isConstant_0 {x0 : Int32} {σ σ' : am_S} {r : Int32} (h : g_Mo_isConstant x0 σ = some (r, σ')) : FR [] [] σ σ' := by
  unfold g_Mo_isConstant at h
  by_cases c3 : x0 = 11
  · rw [if_pos c3] at h
    exact f_Mo_isConstant_47 h
  · rw [if_neg c3] at h
    by_cases c6 : x0 = 5
    · rw [if_pos c6] at h
      exact f_Mo_isConstant_47 h
    · rw [if_neg c6] at h
      by_cases c9 : x0 = 6
      · rw [if_pos c9] at h
        exact f_Mo_isConstant_47 h
      · rw [if_neg c9] at h
        by_cases c12 : x0 = 7
        · rw [if_pos c12] at h
          exact f_Mo_isConstant_47 h
        · rw [if_neg c12] at h
          by_cases c15 : x0 = 13
          · rw [if_pos c15] at h
            exact f_Mo_isConstant_47 h
          · rw [if_neg c15] at h
            by_cases c18 : x0 = 15
            · rw [if_pos c18] at h
              exact f_Mo_isConstant_47 h
            · rw [if_neg c18] at h
              by_cases c21 : x0 = 33
              · rw [if_pos c21] at h
                exact f_Mo_isConstant_47 h
              · rw [if_neg c21] at h
                by_cases c24 : x0 = 25
                · rw [if_pos c24] at h
                  exact f_Mo_isConstant_47 h
                · rw [if_neg c24] at h
                  exact f_Mo_isConstant_52 h
theorem f_Mo_isConstant {x0 : Int32} {σ σ' : am_S} {r : Int32} (h : g_Mo_isConstant x0 σ = some (r, σ')) : FR [] [] σ σ' := f_Mo_isConstant_0 h
set_option maxHeartbeats 4000000 in
theorem f_Mo_isAddress_16 {y0 : Int32} {σ σ' : am_S} {r : Int32} (h : g_Mo_isAddress_16 y0 σ = some (r, σ')) : FR [] [] σ σ' := by
  unfold g_Mo_isAddress_16 at h
  obtain ⟨_, h⟩ := gd_some h
  exact fr_lf fr_rf h
set_option maxHeartbeats 4000000 in
theorem f_Mo_isAddress_11 {σ σ' : am_S} {r : Int32} (h : g_Mo_isAddress_11 σ = some (r, σ')) : FR [] [] σ σ' := by
  unfold g_Mo_isAddress_11 at h
  exact f_Mo_isAddress_16 h
set_option maxHeartbeats 4000000 in
theorem f_Mo_isAddress_0 {x0 : Int32} {σ σ' : am_S} {r : Int32} (h : g_Mo_isAddress x0 σ = some (r, σ')) : FR [] [] σ σ' := by
  unfold g_Mo_isAddress at h
  by_cases c3 : x0 = 1
  · rw [if_pos c3] at h
    exact f_Mo_isAddress_11 h
  · rw [if_neg c3] at h
    by_cases c6 : x0 = 27
    · rw [if_pos c6] at h
      exact f_Mo_isAddress_11 h
    · rw [if_neg c6] at h
      exact f_Mo_isAddress_16 h
theorem f_Mo_isAddress {x0 : Int32} {σ σ' : am_S} {r : Int32} (h : g_Mo_isAddress x0 σ = some (r, σ')) : FR [] [] σ σ' := f_Mo_isAddress_0 h
set_option maxHeartbeats 4000000 in
theorem f_Mo_baseOf_31 {y0 : Int64} {σ σ' : am_S} {r : Int64} (h : g_Mo_baseOf_31 y0 σ = some (r, σ')) : FR [] [] σ σ' := by
  unfold g_Mo_baseOf_31 at h
  exact fr_lf fr_rf h
set_option maxHeartbeats 4000000 in
theorem f_Mo_baseOf_0 {x1 : Int32} {x2 : Int32} {σ σ' : am_S} {r : Int64} (h : g_Mo_baseOf x1 x2 σ = some (r, σ')) : FR [] [] σ σ' := by
  unfold g_Mo_baseOf at h
  obtain ⟨_, h⟩ := gd_some h
  obtain ⟨_, h⟩ := gd_some h
  obtain ⟨v12, σ12, e12, h⟩ := am_bd_some h
  have f12 : FR [] [] σ σ12 := fr_up (f_Mo_has e12) (fun _ h9 => (by cases h9)) (fun _ h9 => (by cases h9))
  by_cases c13 : v12 = 0
  · rw [if_pos c13] at h
    exact fr_tr f12 (f_Mo_baseOf_31 h)
  · rw [if_neg c13] at h
    obtain ⟨v17, σ17, e17, h⟩ := am_bd_some h
    have f17 : FR [] [] σ σ17 := fr_tr f12 (fr_up (f_Mo_valueAt e17) (fun _ h9 => (by cases h9)) (fun _ h9 => (by cases h9)))
    exact fr_tr f17 (f_Mo_baseOf_31 h)
theorem f_Mo_baseOf {x1 : Int32} {x2 : Int32} {σ σ' : am_S} {r : Int64} (h : g_Mo_baseOf x1 x2 σ = some (r, σ')) : FR [] [] σ σ' := f_Mo_baseOf_0 h
set_option maxHeartbeats 4000000 in
theorem f_Mo_indexed_31 {y0 : Int32} {σ σ' : am_S} {r : Int32} (h : g_Mo_indexed_31 y0 σ = some (r, σ')) : FR [] [] σ σ' := by
  unfold g_Mo_indexed_31 at h
  exact fr_lf fr_rf h
set_option maxHeartbeats 4000000 in
theorem f_Mo_indexed_0 {x1 : Int32} {x2 : Int64} {x4 : Int64} {x6 : Int32} {σ σ' : am_S} {r : Int32} (h : g_Mo_indexed x1 x2 x4 x6 σ = some (r, σ')) : FR [] [] σ σ' := by
  unfold g_Mo_indexed at h
  obtain ⟨v4, σ4, e4, h⟩ := am_bd_some h
  have f4 : FR [] [] σ σ4 := fr_up (f_Mo_in e4) (fun _ h9 => (by cases h9)) (fun _ h9 => (by cases h9))
  by_cases c5 : v4 = 0
  · rw [if_pos c5] at h
    exact fr_tr f4 (f_Mo_indexed_31 h)
  · rw [if_neg c5] at h
    obtain ⟨v15, σ15, e15, h⟩ := am_bd_some h
    have f15 : FR [] [] σ σ15 := fr_tr f4 (fr_up (f_Mo_placeIn e15) (fun _ h9 => (by cases h9)) (fun _ h9 => (by cases h9)))
    exact fr_tr f15 (f_Mo_indexed_31 h)
theorem f_Mo_indexed {x1 : Int32} {x2 : Int64} {x4 : Int64} {x6 : Int32} {σ σ' : am_S} {r : Int32} (h : g_Mo_indexed x1 x2 x4 x6 σ = some (r, σ')) : FR [] [] σ σ' := f_Mo_indexed_0 h
set_option maxHeartbeats 4000000 in
theorem f_Mo_nameAt_111 {y0 : Int32} {σ σ' : am_S} {r : Int32} (h : g_Mo_nameAt_111 y0 σ = some (r, σ')) : FR [] [] σ σ' := by
  unfold g_Mo_nameAt_111 at h
  exact fr_lf fr_rf h
set_option maxHeartbeats 4000000 in
theorem f_Mo_nameAt_0 {x1 : Int32} {σ σ' : am_S} {r : Int32} (h : g_Mo_nameAt x1 σ = some (r, σ')) : FR [] [] σ σ' := by
  unfold g_Mo_nameAt at h
  obtain ⟨v4, σ4, e4, h⟩ := am_bd_some h
  have f4 : FR [] [] σ σ4 := fr_up (f_Mo_valueAt e4) (fun _ h9 => (by cases h9)) (fun _ h9 => (by cases h9))
  obtain ⟨v9, σ9, e9, h⟩ := am_bd_some h
  have f9 : FR [] [] σ σ9 := fr_tr f4 (fr_up (f_Mo_formAt e9) (fun _ h9 => (by cases h9)) (fun _ h9 => (by cases h9)))
  by_cases d10_0 : v9 = 8
  · rw [if_pos d10_0] at h
    exact fr_lf f9 h
  rw [if_neg d10_0] at h
  by_cases d10_1 : v9 = 14
  · rw [if_pos d10_1] at h
    obtain ⟨v14, σ14, e14, h⟩ := am_bd_some h
    have f14 : FR [] [] σ σ14 := fr_tr f9 (fr_up (f_Mo_textIn e14) (fun _ h9 => (by cases h9)) (fun _ h9 => (by cases h9)))
    exact fr_lf f14 h
  rw [if_neg d10_1] at h
  by_cases d10_2 : v9 = 31
  · rw [if_pos d10_2] at h
    obtain ⟨v14, σ14, e14, h⟩ := am_bd_some h
    have f14 : FR [] [] σ σ14 := fr_tr f9 (fr_up (f_Mo_textIn e14) (fun _ h9 => (by cases h9)) (fun _ h9 => (by cases h9)))
    exact fr_lf f14 h
  rw [if_neg d10_2] at h
  by_cases d10_3 : v9 = 37
  · rw [if_pos d10_3] at h
    obtain ⟨v16, σ16, e16, h⟩ := am_bd_some h
    have f16 : FR [] [] σ σ16 := fr_tr f9 (fr_up (f_Mo_baseOf e16) (fun _ h9 => (by cases h9)) (fun _ h9 => (by cases h9)))
    obtain ⟨v19, σ19, e19, h⟩ := am_bd_some h
    have f19 : FR [] [] σ σ19 := fr_tr f16 (fr_up (f_Mo_indexed e19) (fun _ h9 => (by cases h9)) (fun _ h9 => (by cases h9)))
    by_cases c23 : v19 = (-1)
    · rw [if_pos c23] at h
      exact fr_tr f19 (f_Mo_nameAt_111 h)
    · rw [if_neg c23] at h
      obtain ⟨v29, σ29, e29, h⟩ := am_bd_some h
      have f29 : FR [] [] σ σ29 := fr_tr f19 (fr_up (f_Mo_peek e29) (fun _ h9 => (by cases h9)) (fun _ h9 => (by cases h9)))
      obtain ⟨v30, σ30, e30, h⟩ := am_bd_some h
      have f30 : FR [] [] σ σ30 := fr_tr f29 (fr_up (f_Mo_textIn e30) (fun _ h9 => (by cases h9)) (fun _ h9 => (by cases h9)))
      exact fr_tr f30 (f_Mo_nameAt_111 h)
  rw [if_neg d10_3] at h
  exact fr_lf f9 h
theorem f_Mo_nameAt {x1 : Int32} {σ σ' : am_S} {r : Int32} (h : g_Mo_nameAt x1 σ = some (r, σ')) : FR [] [] σ σ' := f_Mo_nameAt_0 h
set_option maxHeartbeats 4000000 in
theorem f_Mo_addressAt_50 {y0 : Int32} {σ σ' : am_S} {r : Int32} (h : g_Mo_addressAt_50 y0 σ = some (r, σ')) : FR [(0, 37)] [] σ σ' := by
  unfold g_Mo_addressAt_50 at h
  obtain ⟨_, h⟩ := gd_some h
  exact fr_lf fr_rf h
set_option maxHeartbeats 4000000 in
theorem f_Mo_addressAt_36 {x4 : Int32} {y0 : Int64} {σ σ' : am_S} {r : Int32} (h : g_Mo_addressAt_36 x4 y0 σ = some (r, σ')) : FR [(0, 37)] [] σ σ' := by
  unfold g_Mo_addressAt_36 at h
  by_cases c4 : x4 = (-1)
  · rw [if_pos c4] at h
    exact fr_tr (fr_fl fr_rf (List.mem_of_getElem? (i := 0) rfl)) (f_Mo_addressAt_50 h)
  · rw [if_neg c4] at h
    exact fr_tr (fr_fl fr_rf (List.mem_of_getElem? (i := 0) rfl)) (f_Mo_addressAt_50 h)
set_option maxHeartbeats 4000000 in
theorem f_Mo_addressAt_0 {x1 : Int32} {x2 : Int64} {σ σ' : am_S} {r : Int32} (h : g_Mo_addressAt x1 x2 σ = some (r, σ')) : FR [(0, 37)] [] σ σ' := by
  unfold g_Mo_addressAt at h
  obtain ⟨v6, σ6, e6, h⟩ := am_bd_some h
  have f6 : FR [(0, 37)] [] σ σ6 := fr_up (f_Mo_baseOf e6) (fun _ h9 => (by cases h9)) (fun _ h9 => (by cases h9))
  obtain ⟨v9, σ9, e9, h⟩ := am_bd_some h
  have f9 : FR [(0, 37)] [] σ σ9 := fr_tr f6 (fr_up (f_Mo_indexed e9) (fun _ h9 => (by cases h9)) (fun _ h9 => (by cases h9)))
  by_cases c14 : v9 = (-1)
  · rw [if_pos c14] at h
    exact fr_tr f9 (f_Mo_addressAt_36 h)
  · rw [if_neg c14] at h
    obtain ⟨v18, σ18, e18, h⟩ := am_bd_some h
    have f18 : FR [(0, 37)] [] σ σ18 := fr_tr f9 (fr_up (f_Mo_peek e18) (fun _ h9 => (by cases h9)) (fun _ h9 => (by cases h9)))
    exact fr_tr f18 (f_Mo_addressAt_36 h)
theorem f_Mo_addressAt {x1 : Int32} {x2 : Int64} {σ σ' : am_S} {r : Int32} (h : g_Mo_addressAt x1 x2 σ = some (r, σ')) : FR [(0, 37)] [] σ σ' := f_Mo_addressAt_0 h
set_option maxHeartbeats 4000000 in
theorem f_Mo_address_38 {y0 : Int32} {σ σ' : am_S} {r : Int32} (h : g_Mo_address_38 y0 σ = some (r, σ')) : FR [(0, 37)] [] σ σ' := by
  unfold g_Mo_address_38 at h
  obtain ⟨_, h⟩ := gd_some h
  exact fr_lf fr_rf h
set_option maxHeartbeats 4000000 in
theorem f_Mo_address_33 {σ σ' : am_S} {r : Int32} (h : g_Mo_address_33 σ = some (r, σ')) : FR [(0, 37)] [] σ σ' := by
  unfold g_Mo_address_33 at h
  exact f_Mo_address_38 h
set_option maxHeartbeats 4000000 in
theorem f_Mo_address_0 {x1 : Int32} {x2 : Int32} {σ σ' : am_S} {r : Int32} (h : g_Mo_address x1 x2 σ = some (r, σ')) : FR [(0, 37)] [] σ σ' := by
  unfold g_Mo_address at h
  obtain ⟨v5, σ5, e5, h⟩ := am_bd_some h
  have f5 : FR [(0, 37)] [] σ σ5 := fr_up (f_Mo_valueAt e5) (fun _ h9 => (by cases h9)) (fun _ h9 => (by cases h9))
  obtain ⟨v10, σ10, e10, h⟩ := am_bd_some h
  have f10 : FR [(0, 37)] [] σ σ10 := fr_tr (fr_fl f5 (List.mem_of_getElem? (i := 0) rfl)) (fr_up (f_Mo_formAt e10) (fun _ h9 => (by cases h9)) (fun _ h9 => (by cases h9)))
  by_cases c12 : v10 = 27
  · rw [if_pos c12] at h
    obtain ⟨v17, σ17, e17, h⟩ := am_bd_some h
    have f17 : FR [(0, 37)] [] σ σ17 := fr_tr f10 (f_Mo_addressAt e17)
    by_cases c18 : v17 = 0
    · rw [if_pos c18] at h
      exact fr_tr f17 (f_Mo_address_38 h)
    · rw [if_neg c18] at h
      exact fr_tr f17 (f_Mo_address_33 h)
  · rw [if_neg c12] at h
    exact fr_tr f10 (f_Mo_address_33 h)
theorem f_Mo_address {x1 : Int32} {x2 : Int32} {σ σ' : am_S} {r : Int32} (h : g_Mo_address x1 x2 σ = some (r, σ')) : FR [(0, 37)] [] σ σ' := f_Mo_address_0 h
set_option maxHeartbeats 4000000 in
theorem f_Mo_origin_98 {x4 : Int32} {σ σ' : am_S} {r : Int32} (h : g_Mo_origin_98 x4 σ = some (r, σ')) : FR [] [] σ σ' := by
  unfold g_Mo_origin_98 at h
  exact fr_lf fr_rf h
set_option maxHeartbeats 4000000 in
theorem f_Mo_origin_101 {x1 : Int32} {x2 : Int64} {x4 : Int32} {σ σ' : am_S} {r : Int32} {go : Int32 → Int64 → Int32 → am_S → Option (Int32 × am_S)} (hgo : ∀ {x1 : Int32} {x2 : Int64} {x4 : Int32} {σ σ' : am_S} {r : Int32}, go x1 x2 x4 σ = some (r, σ') → FR [] [] σ σ') (h : g_Mo_origin_101 go x1 x2 x4 σ = some (r, σ')) : FR [] [] σ σ' := by
  unfold g_Mo_origin_101 at h
  exact hgo h
set_option maxHeartbeats 4000000 in
theorem f_Mo_origin_36 : ∀ (n : Nat) {x1 : Int32} {x2 : Int64} {x4 : Int32} {σ σ' : am_S} {r : Int32} (h : g_Mo_origin_36 n x1 x2 x4 σ = some (r, σ')), FR [] [] σ σ' := by
  intro n
  induction n with
  | zero =>
    intro x1 x2 x4 σ σ' r h
    cases h
  | succ n ih =>
  intro x1 x2 x4 σ σ' r h
  unfold g_Mo_origin_36 at h
  by_cases c4 : x4 < (σ.1.1 0 22)
  · rw [if_pos c4] at h
    obtain ⟨_, h⟩ := gd_some h
    obtain ⟨_, h⟩ := gd_some h
    by_cases c13 : (σ.2.1 19 x4.toNatClampNeg) = (σ.2.1 19 x1.toNatClampNeg)
    · rw [if_pos c13] at h
      obtain ⟨_, h⟩ := gd_some h
      by_cases c21 : (lg_cmp ((σ.2.1 16 x4.toNatClampNeg).toInt64) x2) = 0
      · rw [if_pos c21] at h
        obtain ⟨_, h⟩ := gd_some h
        by_cases c27 : (σ.2.1 17 x4.toNatClampNeg) = 46
        · rw [if_pos c27] at h
          exact f_Mo_origin_98 h
        · rw [if_neg c27] at h
          obtain ⟨_, h⟩ := gd_some h
          by_cases c33 : (σ.2.1 17 x4.toNatClampNeg) = 29
          · rw [if_pos c33] at h
            exact f_Mo_origin_98 h
          · rw [if_neg c33] at h
            exact f_Mo_origin_101 (fun h => ih h) h
      · rw [if_neg c21] at h
        exact f_Mo_origin_101 (fun h => ih h) h
    · rw [if_neg c13] at h
      exact f_Mo_origin_101 (fun h => ih h) h
  · rw [if_neg c4] at h
    exact fr_lf fr_rf h
set_option maxHeartbeats 4000000 in
theorem f_Mo_origin_0 {x1 : Int32} {σ σ' : am_S} {r : Int32} (h : g_Mo_origin x1 σ = some (r, σ')) : FR [] [] σ σ' := by
  unfold g_Mo_origin at h
  obtain ⟨v4, σ4, e4, h⟩ := am_bd_some h
  have f4 : FR [] [] σ σ4 := fr_up (f_Mo_formAt e4) (fun _ h9 => (by cases h9)) (fun _ h9 => (by cases h9))
  by_cases c6 : v4 = 19
  · rw [if_pos c6] at h
    obtain ⟨_, h⟩ := gd_some h
    obtain ⟨_, h⟩ := gd_some h
    obtain ⟨v18, σ18, e18, h⟩ := am_bd_some h
    have f18 : FR [] [] σ σ18 := fr_tr f4 (fr_up (f_Mo_valueAt e18) (fun _ h9 => (by cases h9)) (fun _ h9 => (by cases h9)))
    exact fr_tr f18 (f_Mo_origin_36 4000 h)
  · rw [if_neg c6] at h
    exact fr_lf f4 h
theorem f_Mo_origin {x1 : Int32} {σ σ' : am_S} {r : Int32} (h : g_Mo_origin x1 σ = some (r, σ')) : FR [] [] σ σ' := f_Mo_origin_0 h
set_option maxHeartbeats 4000000 in
theorem f_Mo_isOrigin_14 {y0 : Int32} {σ σ' : am_S} {r : Int32} (h : g_Mo_isOrigin_14 y0 σ = some (r, σ')) : FR [] [] σ σ' := by
  unfold g_Mo_isOrigin_14 at h
  obtain ⟨_, h⟩ := gd_some h
  exact fr_lf fr_rf h
set_option maxHeartbeats 4000000 in
theorem f_Mo_isOrigin_0 {x1 : Int32} {σ σ' : am_S} {r : Int32} (h : g_Mo_isOrigin x1 σ = some (r, σ')) : FR [] [] σ σ' := by
  unfold g_Mo_isOrigin at h
  obtain ⟨v3, σ3, e3, h⟩ := am_bd_some h
  have f3 : FR [] [] σ σ3 := fr_up (f_Mo_origin e3) (fun _ h9 => (by cases h9)) (fun _ h9 => (by cases h9))
  by_cases c5 : v3 = (-1)
  · rw [if_pos c5] at h
    exact fr_tr f3 (f_Mo_isOrigin_14 h)
  · rw [if_neg c5] at h
    exact fr_tr f3 (f_Mo_isOrigin_14 h)
theorem f_Mo_isOrigin {x1 : Int32} {σ σ' : am_S} {r : Int32} (h : g_Mo_isOrigin x1 σ = some (r, σ')) : FR [] [] σ σ' := f_Mo_isOrigin_0 h
