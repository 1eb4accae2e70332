set_option maxHeartbeats 4000000 in
theorem f_Ro_add_0 {x1 : Int64} {x3 : Int64} {x5 : Int32} {x6 : Int32} {σ σ' : am_S} {r : Int32} (h : g_Ro_add x1 x3 x5 x6 σ = some (r, σ')) : FR [(40, 8)] [41, 42, 43, 44] σ σ' := by
  unfold g_Ro_add at h
  by_cases c4 : (σ.1.1 40 8) = 400
  · rw [if_pos c4] at h
    exact fr_lf fr_rf h
  · rw [if_neg c4] at h
    obtain ⟨_, h⟩ := gd_some h
    obtain ⟨_, h⟩ := gd_some h
    obtain ⟨_, h⟩ := gd_some h
    obtain ⟨_, h⟩ := gd_some h
    exact fr_lf (fr_fi (fr_ai (fr_ai (fr_al (fr_al fr_rf (List.mem_of_getElem? (i := 0) rfl)) (List.mem_of_getElem? (i := 1) rfl)) (List.mem_of_getElem? (i := 2) rfl)) (List.mem_of_getElem? (i := 3) rfl)) (List.mem_of_getElem? (i := 0) rfl)) h
theorem f_Ro_add {x1 : Int64} {x3 : Int64} {x5 : Int32} {x6 : Int32} {σ σ' : am_S} {r : Int32} (h : g_Ro_add x1 x3 x5 x6 σ = some (r, σ')) : FR [(40, 8)] [41, 42, 43, 44] σ σ' := f_Ro_add_0 h
set_option maxHeartbeats 4000000 in
theorem f_Ro_addFile_0 {x1 : Int32} {x2 : Int32} {σ σ' : am_S} {r : Unit} (h : g_Ro_addFile x1 x2 σ = some (r, σ')) : FR [] [47, 48] σ σ' := by
  unfold g_Ro_addFile at h
  obtain ⟨_, h⟩ := gd_some h
  obtain ⟨_, h⟩ := gd_some h
  obtain ⟨_, h⟩ := gd_some h
  obtain ⟨_, h⟩ := gd_some h
  exact fr_lf (fr_ai (fr_ai fr_rf (List.mem_of_getElem? (i := 1) rfl)) (List.mem_of_getElem? (i := 0) rfl)) h
theorem f_Ro_addFile {x1 : Int32} {x2 : Int32} {σ σ' : am_S} {r : Unit} (h : g_Ro_addFile x1 x2 σ = some (r, σ')) : FR [] [47, 48] σ σ' := f_Ro_addFile_0 h
set_option maxHeartbeats 4000000 in
theorem f_Ro_nameOfFile_34 {y0 : Int32} {σ σ' : am_S} {r : Int32} (h : g_Ro_nameOfFile_34 y0 σ = some (r, σ')) : FR [] [] σ σ' := by
  unfold g_Ro_nameOfFile_34 at h
  exact fr_lf fr_rf h
set_option maxHeartbeats 4000000 in
theorem f_Ro_nameOfFile_33 {σ σ' : am_S} {r : Int32} (h : g_Ro_nameOfFile_33 σ = some (r, σ')) : FR [] [] σ σ' := by
  unfold g_Ro_nameOfFile_33 at h
  exact f_Ro_nameOfFile_34 h
set_option maxHeartbeats 4000000 in
theorem f_Ro_nameOfFile_0 {x1 : Int32} {x2 : Int64} {σ σ' : am_S} {r : Int32} (h : g_Ro_nameOfFile x1 x2 σ = some (r, σ')) : FR [] [] σ σ' := by
  unfold g_Ro_nameOfFile at h
  by_cases c4 : (lg_cmp x2 0) < 0
  · rw [if_pos c4] at h
    exact f_Ro_nameOfFile_33 h
  · rw [if_neg c4] at h
    obtain ⟨_, h⟩ := gd_some h
    by_cases c12 : (lg_cmp x2 ((σ.2.1 47 x1.toNatClampNeg).toInt64)) < 0
    · rw [if_pos c12] at h
      obtain ⟨_, h⟩ := gd_some h
      exact f_Ro_nameOfFile_34 h
    · rw [if_neg c12] at h
      exact f_Ro_nameOfFile_33 h
theorem f_Ro_nameOfFile {x1 : Int32} {x2 : Int64} {σ σ' : am_S} {r : Int32} (h : g_Ro_nameOfFile x1 x2 σ = some (r, σ')) : FR [] [] σ σ' := f_Ro_nameOfFile_0 h
set_option maxHeartbeats 4000000 in
theorem f_Ro_lastNotAbove_5 : ∀ (n : Nat) {x1 : Int32} {x3 : Int64} {x5 : Int32} {σ σ' : am_S} {r : Int32} (h : g_Ro_lastNotAbove_5 n x1 x3 x5 σ = some (r, σ')), FR [] [] σ σ' := by
  intro n
  induction n with
  | zero =>
    intro x1 x3 x5 σ σ' r h
    cases h
  | succ n ih =>
  intro x1 x3 x5 σ σ' r h
  unfold g_Ro_lastNotAbove_5 at h
  by_cases c3 : x5 < x1
  · rw [if_pos c3] at h
    exact fr_lf fr_rf h
  · rw [if_neg c3] at h
    obtain ⟨_, h⟩ := gd_some h
    obtain ⟨v9, σ9, e9, h⟩ := am_bd_some h
    have f9 : FR [] [] σ σ9 := fr_up (f_F_isBelow e9) (fun _ h9 => (by cases h9)) (fun _ h9 => (by cases h9))
    by_cases c10 : v9 = 0
    · rw [if_pos c10] at h
      exact fr_lf f9 h
    · rw [if_neg c10] at h
      exact fr_tr f9 (ih h)
set_option maxHeartbeats 4000000 in
theorem f_Ro_lastNotAbove_0 {x1 : Int32} {x2 : Int32} {x3 : Int64} {σ σ' : am_S} {r : Int32} (h : g_Ro_lastNotAbove x1 x2 x3 σ = some (r, σ')) : FR [] [] σ σ' := by
  unfold g_Ro_lastNotAbove at h
  exact f_Ro_lastNotAbove_5 4000 h
theorem f_Ro_lastNotAbove {x1 : Int32} {x2 : Int32} {x3 : Int64} {σ σ' : am_S} {r : Int32} (h : g_Ro_lastNotAbove x1 x2 x3 σ = some (r, σ')) : FR [] [] σ σ' := f_Ro_lastNotAbove_0 h
set_option maxHeartbeats 4000000 in
theorem f_Ro_rowOf_77 {x1 : Int32} {x2 : Int64} {x4 : Int32} {x5 : Int32} {σ σ' : am_S} {r : Int32} {go : Int32 → Int64 → Int32 → Int32 → am_S → Option (Int32 × am_S)} (hgo : ∀ {x1 : Int32} {x2 : Int64} {x4 : Int32} {x5 : Int32} {σ σ' : am_S} {r : Int32}, go x1 x2 x4 x5 σ = some (r, σ') → FR [] [] σ σ') (h : g_Ro_rowOf_77 go x1 x2 x4 x5 σ = some (r, σ')) : FR [] [] σ σ' := by
  unfold g_Ro_rowOf_77 at h
  exact hgo h
set_option maxHeartbeats 4000000 in
theorem f_Ro_rowOf_71 {x1 : Int32} {x2 : Int64} {x5 : Int32} {σ σ' : am_S} {r : Int32} {go : Int32 → Int64 → Int32 → Int32 → am_S → Option (Int32 × am_S)} (hgo : ∀ {x1 : Int32} {x2 : Int64} {x4 : Int32} {x5 : Int32} {σ σ' : am_S} {r : Int32}, go x1 x2 x4 x5 σ = some (r, σ') → FR [] [] σ σ') (h : g_Ro_rowOf_71 go x1 x2 x5 σ = some (r, σ')) : FR [] [] σ σ' := by
  unfold g_Ro_rowOf_71 at h
  exact f_Ro_rowOf_77 hgo h
set_option maxHeartbeats 4000000 in
theorem f_Ro_rowOf_12 : ∀ (n : Nat) {x1 : Int32} {x2 : Int64} {x4 : Int32} {x5 : Int32} {σ σ' : am_S} {r : Int32} (h : g_Ro_rowOf_12 n x1 x2 x4 x5 σ = some (r, σ')), FR [] [] σ σ' := by
  intro n
  induction n with
  | zero =>
    intro x1 x2 x4 x5 σ σ' r h
    cases h
  | succ n ih =>
  intro x1 x2 x4 x5 σ σ' r h
  unfold g_Ro_rowOf_12 at h
  obtain ⟨_, h⟩ := gd_some h
  by_cases c6 : x5 < (σ.2.1 46 x1.toNatClampNeg)
  · rw [if_pos c6] at h
    obtain ⟨_, h⟩ := gd_some h
    by_cases c11 : (σ.2.1 44 x5.toNatClampNeg) = 0
    · rw [if_pos c11] at h
      exact f_Ro_rowOf_77 (fun h => ih h) h
    · rw [if_neg c11] at h
      obtain ⟨_, h⟩ := gd_some h
      obtain ⟨v17, σ17, e17, h⟩ := am_bd_some h
      have f17 : FR [] [] σ σ17 := fr_up (f_F_isBelow e17) (fun _ h9 => (by cases h9)) (fun _ h9 => (by cases h9))
      by_cases c18 : v17 = 0
      · rw [if_pos c18] at h
        obtain ⟨_, h⟩ := gd_some h
        obtain ⟨v24, σ24, e24, h⟩ := am_bd_some h
        have f24 : FR [] [] σ σ24 := fr_tr f17 (fr_up (f_F_isBelow e24) (fun _ h9 => (by cases h9)) (fun _ h9 => (by cases h9)))
        by_cases c25 : v24 = 0
        · rw [if_pos c25] at h
          exact fr_tr f24 (f_Ro_rowOf_71 (fun h => ih h) h)
        · rw [if_neg c25] at h
          obtain ⟨v30, σ30, e30, h⟩ := am_bd_some h
          have f30 : FR [] [] σ σ30 := fr_tr f24 (fr_up (f_Ro_lastNotAbove e30) (fun _ h9 => (by cases h9)) (fun _ h9 => (by cases h9)))
          exact fr_lf f30 h
      · rw [if_neg c18] at h
        exact fr_tr f17 (f_Ro_rowOf_71 (fun h => ih h) h)
  · rw [if_neg c6] at h
    exact fr_lf fr_rf h
set_option maxHeartbeats 4000000 in
theorem f_Ro_rowOf_0 {x1 : Int32} {x2 : Int64} {σ σ' : am_S} {r : Int32} (h : g_Ro_rowOf x1 x2 σ = some (r, σ')) : FR [] [] σ σ' := by
  unfold g_Ro_rowOf at h
  obtain ⟨_, h⟩ := gd_some h
  exact f_Ro_rowOf_12 4000 h
theorem f_Ro_rowOf {x1 : Int32} {x2 : Int64} {σ σ' : am_S} {r : Int32} (h : g_Ro_rowOf x1 x2 σ = some (r, σ')) : FR [] [] σ σ' := f_Ro_rowOf_0 h
set_option maxHeartbeats 4000000 in
theorem f_Li_readHead_26 {σ σ' : am_S} {r : Int32} (h : g_Li_readHead_26 σ = some (r, σ')) : FR [(49, 10), (49, 11), (49, 8), (49, 9), (51, 1), (51, 3)] [] σ σ' := by
  unfold g_Li_readHead_26 at h
  exact fr_lf fr_rf h
set_option maxHeartbeats 4000000 in
theorem f_Li_readHead_142 {y0 : Int32} {σ σ' : am_S} {r : Int32} (h : g_Li_readHead_142 y0 σ = some (r, σ')) : FR [(49, 10), (49, 11), (49, 8), (49, 9), (51, 1), (51, 3)] [] σ σ' := by
  unfold g_Li_readHead_142 at h
  obtain ⟨_, h⟩ := gd_some h
  exact fr_lf fr_rf h
set_option maxHeartbeats 4000000 in
theorem f_Li_readHead_141 {σ σ' : am_S} {r : Int32} (h : g_Li_readHead_141 σ = some (r, σ')) : FR [(49, 10), (49, 11), (49, 8), (49, 9), (51, 1), (51, 3)] [] σ σ' := by
  unfold g_Li_readHead_141 at h
  exact f_Li_readHead_142 h
set_option maxHeartbeats 4000000 in
theorem f_Li_readHead_0 {σ σ' : am_S} {r : Int32} (h : g_Li_readHead σ = some (r, σ')) : FR [(49, 10), (49, 11), (49, 8), (49, 9), (51, 1), (51, 3)] [] σ σ' := by
  unfold g_Li_readHead at h
  obtain ⟨v4, σ4, e4, h⟩ := am_bd_some h
  have f4 : FR [(49, 10), (49, 11), (49, 8), (49, 9), (51, 1), (51, 3)] [] σ σ4 := fr_up (f_Cu_number e4) (by decide) (fun _ h9 => h9)
  by_cases c7 : (lg_cmp v4 1) = 0
  · rw [if_pos c7] at h
    obtain ⟨v11, σ11, e11, h⟩ := am_bd_some h
    have f11 : FR [(49, 10), (49, 11), (49, 8), (49, 9), (51, 1), (51, 3)] [] σ σ11 := fr_tr f4 (fr_up (f_Cu_number e11) (by decide) (fun _ h9 => h9))
    by_cases c14 : (lg_cmp v11 1) = 0
    · rw [if_pos c14] at h
      obtain ⟨v18, σ18, e18, h⟩ := am_bd_some h
      have f18 : FR [(49, 10), (49, 11), (49, 8), (49, 9), (51, 1), (51, 3)] [] σ σ18 := fr_tr f11 (fr_up (f_Cu_skip e18) (by decide) (fun _ h9 => h9))
      obtain ⟨v23, σ23, e23, h⟩ := am_bd_some h
      have f23 : FR [(49, 10), (49, 11), (49, 8), (49, 9), (51, 1), (51, 3)] [] σ σ23 := fr_tr f18 (fr_up (f_Cu_number e23) (by decide) (fun _ h9 => h9))
      obtain ⟨v31, σ31, e31, h⟩ := am_bd_some h
      have f31 : FR [(49, 10), (49, 11), (49, 8), (49, 9), (51, 1), (51, 3)] [] σ σ31 := fr_tr (fr_fi f23 (List.mem_of_getElem? (i := 2) rfl)) (fr_up (f_Cu_number e31) (by decide) (fun _ h9 => h9))
      obtain ⟨v38, σ38, e38, h⟩ := am_bd_some h
      have f38 : FR [(49, 10), (49, 11), (49, 8), (49, 9), (51, 1), (51, 3)] [] σ σ38 := fr_tr (fr_fi f31 (List.mem_of_getElem? (i := 3) rfl)) (fr_up (f_Cu_number e38) (by decide) (fun _ h9 => h9))
      obtain ⟨v53, σ53, e53, h⟩ := am_bd_some h
      have f53 : FR [(49, 10), (49, 11), (49, 8), (49, 9), (51, 1), (51, 3)] [] σ σ53 := fr_tr (fr_fi (fr_fi f38 (List.mem_of_getElem? (i := 0) rfl)) (List.mem_of_getElem? (i := 1) rfl)) (fr_up (f_Cu_skip e53) (by decide) (fun _ h9 => h9))
      by_cases c57 : (σ53.1.1 51 3) = 0
      · rw [if_pos c57] at h
        by_cases c60 : (σ53.1.1 49 9) = 0
        · rw [if_pos c60] at h
          exact fr_tr f53 (f_Li_readHead_141 h)
        · rw [if_neg c60] at h
          by_cases c64 : (σ53.1.1 49 10) < 10
          · rw [if_pos c64] at h
            exact fr_tr f53 (f_Li_readHead_141 h)
          · rw [if_neg c64] at h
            by_cases c68 : 200 < (σ53.1.1 49 10)
            · rw [if_pos c68] at h
              exact fr_tr f53 (f_Li_readHead_141 h)
            · rw [if_neg c68] at h
              exact fr_tr f53 (f_Li_readHead_142 h)
      · rw [if_neg c57] at h
        exact fr_tr f53 (f_Li_readHead_141 h)
    · rw [if_neg c14] at h
      exact fr_tr f11 (f_Li_readHead_26 h)
  · rw [if_neg c7] at h
    exact fr_tr f4 (f_Li_readHead_26 h)
theorem f_Li_readHead {σ σ' : am_S} {r : Int32} (h : g_Li_readHead σ = some (r, σ')) : FR [(49, 10), (49, 11), (49, 8), (49, 9), (51, 1), (51, 3)] [] σ σ' := f_Li_readHead_0 h
set_option maxHeartbeats 4000000 in
theorem f_Li_readForms_37 {σ σ' : am_S} {r : Int32} (h : g_Li_readForms_37 σ = some (r, σ')) : FR [(49, 6), (49, 7), (51, 1), (51, 3)] [50] σ σ' := by
  unfold g_Li_readForms_37 at h
  exact fr_lf fr_rf h
set_option maxHeartbeats 4000000 in
theorem f_Li_readForms_132 {σ σ' : am_S} {r : Int32} (h : g_Li_readForms_132 σ = some (r, σ')) : FR [(49, 6), (49, 7), (51, 1), (51, 3)] [50] σ σ' := by
  unfold g_Li_readForms_132 at h
  exact fr_lf fr_rf h
set_option maxHeartbeats 4000000 in
theorem f_Li_readForms_191 {x1 : Int32} {y0 : Int32} {σ σ' : am_S} {r : Int32} {go : Int32 → am_S → Option (Int32 × am_S)} (hgo : ∀ {x1 : Int32} {σ σ' : am_S} {r : Int32}, go x1 σ = some (r, σ') → FR [(49, 6), (49, 7), (51, 1), (51, 3)] [50] σ σ') (h : g_Li_readForms_191 go x1 y0 σ = some (r, σ')) : FR [(49, 6), (49, 7), (51, 1), (51, 3)] [50] σ σ' := by
  unfold g_Li_readForms_191 at h
  exact fr_tr (fr_fi fr_rf (List.mem_of_getElem? (i := 1) rfl)) (hgo h)
set_option maxHeartbeats 4000000 in
theorem f_Li_readForms_168 {x1 : Int32} {x4 : Int64} {x7 : Int32} {σ σ' : am_S} {r : Int32} {go : Int32 → am_S → Option (Int32 × am_S)} (hgo : ∀ {x1 : Int32} {σ σ' : am_S} {r : Int32}, go x1 σ = some (r, σ') → FR [(49, 6), (49, 7), (51, 1), (51, 3)] [50] σ σ') (h : g_Li_readForms_168 go x1 x4 x7 σ = some (r, σ')) : FR [(49, 6), (49, 7), (51, 1), (51, 3)] [50] σ σ' := by
  unfold g_Li_readForms_168 at h
  obtain ⟨_, h⟩ := gd_some h
  by_cases c9 : x7 = 0
  · rw [if_pos c9] at h
    exact fr_tr (fr_ai fr_rf (List.mem_of_getElem? (i := 0) rfl)) (f_Li_readForms_191 hgo h)
  · rw [if_neg c9] at h
    exact fr_tr (fr_ai fr_rf (List.mem_of_getElem? (i := 0) rfl)) (f_Li_readForms_191 hgo h)
set_option maxHeartbeats 4000000 in
theorem f_Li_readForms_134 {x1 : Int32} {x4 : Int64} {x6 : Int32} {x7 : Int32} {σ σ' : am_S} {r : Int32} {go : Int32 → am_S → Option (Int32 × am_S)} (hgo : ∀ {x1 : Int32} {σ σ' : am_S} {r : Int32}, go x1 σ = some (r, σ') → FR [(49, 6), (49, 7), (51, 1), (51, 3)] [50] σ σ') (h : g_Li_readForms_134 go x1 x4 x6 x7 σ = some (r, σ')) : FR [(49, 6), (49, 7), (51, 1), (51, 3)] [50] σ σ' := by
  unfold g_Li_readForms_134 at h
  by_cases c2 : x6 = 0
  · rw [if_pos c2] at h
    by_cases c6 : (lg_cmp x4 11) = 0
    · rw [if_pos c6] at h
      exact f_Li_readForms_168 hgo h
    · rw [if_neg c6] at h
      by_cases c10 : (lg_cmp x4 5) = 0
      · rw [if_pos c10] at h
        exact f_Li_readForms_168 hgo h
      · rw [if_neg c10] at h
        by_cases c14 : (lg_cmp x4 15) = 0
        · rw [if_pos c14] at h
          exact f_Li_readForms_168 hgo h
        · rw [if_neg c14] at h
          exact fr_lf fr_rf h
  · rw [if_neg c2] at h
    exact f_Li_readForms_168 hgo h
set_option maxHeartbeats 4000000 in
theorem f_Li_readForms_110 {x1 : Int32} {x4 : Int64} {x6 : Int32} {y0 : Int32} {σ σ' : am_S} {r : Int32} {go : Int32 → am_S → Option (Int32 × am_S)} (hgo : ∀ {x1 : Int32} {σ σ' : am_S} {r : Int32}, go x1 σ = some (r, σ') → FR [(49, 6), (49, 7), (51, 1), (51, 3)] [50] σ σ') (h : g_Li_readForms_110 go x1 x4 x6 y0 σ = some (r, σ')) : FR [(49, 6), (49, 7), (51, 1), (51, 3)] [50] σ σ' := by
  unfold g_Li_readForms_110 at h
  by_cases c5 : (σ.1.1 51 3) = 0
  · rw [if_pos c5] at h
    by_cases c7 : y0 = 0
    · rw [if_pos c7] at h
      exact f_Li_readForms_134 hgo h
    · rw [if_neg c7] at h
      by_cases c9 : x6 = 0
      · rw [if_pos c9] at h
        exact f_Li_readForms_132 h
      · rw [if_neg c9] at h
        exact f_Li_readForms_134 hgo h
  · rw [if_neg c5] at h
    exact f_Li_readForms_132 h
set_option maxHeartbeats 4000000 in
theorem f_Li_readForms_109 {x1 : Int32} {x4 : Int64} {x6 : Int32} {σ σ' : am_S} {r : Int32} {go : Int32 → am_S → Option (Int32 × am_S)} (hgo : ∀ {x1 : Int32} {σ σ' : am_S} {r : Int32}, go x1 σ = some (r, σ') → FR [(49, 6), (49, 7), (51, 1), (51, 3)] [50] σ σ') (h : g_Li_readForms_109 go x1 x4 x6 σ = some (r, σ')) : FR [(49, 6), (49, 7), (51, 1), (51, 3)] [50] σ σ' := by
  unfold g_Li_readForms_109 at h
  exact f_Li_readForms_110 hgo h
set_option maxHeartbeats 4000000 in
theorem f_Li_readForms_89 {x1 : Int32} {x2 : Int64} {x4 : Int64} {y0 : Int32} {σ σ' : am_S} {r : Int32} {go : Int32 → am_S → Option (Int32 × am_S)} (hgo : ∀ {x1 : Int32} {σ σ' : am_S} {r : Int32}, go x1 σ = some (r, σ') → FR [(49, 6), (49, 7), (51, 1), (51, 3)] [50] σ σ') (h : g_Li_readForms_89 go x1 x2 x4 y0 σ = some (r, σ')) : FR [(49, 6), (49, 7), (51, 1), (51, 3)] [50] σ σ' := by
  unfold g_Li_readForms_89 at h
  by_cases c5 : (lg_cmp x2 1) = 0
  · rw [if_pos c5] at h
    by_cases c9 : (σ.1.1 49 7) = (-1)
    · rw [if_pos c9] at h
      exact f_Li_readForms_110 hgo h
    · rw [if_neg c9] at h
      exact f_Li_readForms_109 hgo h
  · rw [if_neg c5] at h
    exact f_Li_readForms_109 hgo h
set_option maxHeartbeats 4000000 in
theorem f_Li_readForms_84 {x1 : Int32} {x2 : Int64} {x4 : Int64} {σ σ' : am_S} {r : Int32} {go : Int32 → am_S → Option (Int32 × am_S)} (hgo : ∀ {x1 : Int32} {σ σ' : am_S} {r : Int32}, go x1 σ = some (r, σ') → FR [(49, 6), (49, 7), (51, 1), (51, 3)] [50] σ σ') (h : g_Li_readForms_84 go x1 x2 x4 σ = some (r, σ')) : FR [(49, 6), (49, 7), (51, 1), (51, 3)] [50] σ σ' := by
  unfold g_Li_readForms_84 at h
  exact f_Li_readForms_89 hgo h
set_option maxHeartbeats 4000000 in
theorem f_Li_readForms_41 : ∀ (n : Nat) {x1 : Int32} {σ σ' : am_S} {r : Int32} (h : g_Li_readForms_41 n x1 σ = some (r, σ')), FR [(49, 6), (49, 7), (51, 1), (51, 3)] [50] σ σ' := by
  intro n
  induction n with
  | zero =>
    intro x1 σ σ' r h
    cases h
  | succ n ih =>
  intro x1 σ σ' r h
  unfold g_Li_readForms_41 at h
  by_cases c4 : x1 < (σ.1.1 49 6)
  · rw [if_pos c4] at h
    obtain ⟨v7, σ7, e7, h⟩ := am_bd_some h
    have f7 : FR [(49, 6), (49, 7), (51, 1), (51, 3)] [50] σ σ7 := fr_up (f_Cu_uleb e7) (by decide) (by decide)
    obtain ⟨v11, σ11, e11, h⟩ := am_bd_some h
    have f11 : FR [(49, 6), (49, 7), (51, 1), (51, 3)] [50] σ σ11 := fr_tr f7 (fr_up (f_Cu_uleb e11) (by decide) (by decide))
    by_cases c16 : (lg_cmp v11 8) = 0
    · rw [if_pos c16] at h
      exact fr_tr f11 (f_Li_readForms_84 (fun h => ih h) h)
    · rw [if_neg c16] at h
      by_cases c20 : (lg_cmp v11 31) = 0
      · rw [if_pos c20] at h
        exact fr_tr f11 (f_Li_readForms_84 (fun h => ih h) h)
      · rw [if_neg c20] at h
        exact fr_tr f11 (f_Li_readForms_89 (fun h => ih h) h)
  · rw [if_neg c4] at h
    exact fr_lf fr_rf h
set_option maxHeartbeats 4000000 in
theorem f_Li_readForms_0 {σ σ' : am_S} {r : Int32} (h : g_Li_readForms σ = some (r, σ')) : FR [(49, 6), (49, 7), (51, 1), (51, 3)] [50] σ σ' := by
  unfold g_Li_readForms at h
  obtain ⟨v5, σ5, e5, h⟩ := am_bd_some h
  have f5 : FR [(49, 6), (49, 7), (51, 1), (51, 3)] [50] σ σ5 := fr_up (f_Cu_number e5) (by decide) (by decide)
  by_cases c14 : (σ5.1.1 51 3) = 0
  · rw [if_pos c14] at h
    by_cases c18 : 6 < v5.toInt32
    · rw [if_pos c18] at h
      exact fr_tr (fr_fi (fr_fi f5 (List.mem_of_getElem? (i := 0) rfl)) (List.mem_of_getElem? (i := 1) rfl)) (f_Li_readForms_37 h)
    · rw [if_neg c18] at h
      exact fr_tr (fr_fi (fr_fi f5 (List.mem_of_getElem? (i := 0) rfl)) (List.mem_of_getElem? (i := 1) rfl)) (f_Li_readForms_41 4000 h)
  · rw [if_neg c14] at h
    exact fr_tr (fr_fi (fr_fi f5 (List.mem_of_getElem? (i := 0) rfl)) (List.mem_of_getElem? (i := 1) rfl)) (f_Li_readForms_37 h)
theorem f_Li_readForms {σ σ' : am_S} {r : Int32} (h : g_Li_readForms σ = some (r, σ')) : FR [(49, 6), (49, 7), (51, 1), (51, 3)] [50] σ σ' := f_Li_readForms_0 h
set_option maxHeartbeats 4000000 in
theorem f_Li_readValue_0 {x1 : Int32} {σ σ' : am_S} {r : Int64} (h : g_Li_readValue x1 σ = some (r, σ')) : FR [(51, 1), (51, 3)] [] σ σ' := by
  unfold g_Li_readValue at h
  by_cases d2_0 : x1 = 5
  · rw [if_pos d2_0] at h
    obtain ⟨v6, σ6, e6, h⟩ := am_bd_some h
    have f6 : FR [(51, 1), (51, 3)] [] σ σ6 := f_Cu_number e6
    exact fr_lf f6 h
  rw [if_neg d2_0] at h
  by_cases d2_1 : x1 = 8
  · rw [if_pos d2_1] at h
    obtain ⟨v5, σ5, e5, h⟩ := am_bd_some h
    have f5 : FR [(51, 1), (51, 3)] [] σ σ5 := f_Cu_text e5
    exact fr_lf f5 h
  rw [if_neg d2_1] at h
  by_cases d2_2 : x1 = 11
  · rw [if_pos d2_2] at h
    obtain ⟨v6, σ6, e6, h⟩ := am_bd_some h
    have f6 : FR [(51, 1), (51, 3)] [] σ σ6 := f_Cu_number e6
    exact fr_lf f6 h
  rw [if_neg d2_2] at h
  by_cases d2_3 : x1 = 31
  · rw [if_pos d2_3] at h
    obtain ⟨v6, σ6, e6, h⟩ := am_bd_some h
    have f6 : FR [(51, 1), (51, 3)] [] σ σ6 := f_Cu_number e6
    exact fr_lf f6 h
  rw [if_neg d2_3] at h
  obtain ⟨v5, σ5, e5, h⟩ := am_bd_some h
  have f5 : FR [(51, 1), (51, 3)] [] σ σ5 := f_Cu_uleb e5
  exact fr_lf f5 h
theorem f_Li_readValue {x1 : Int32} {σ σ' : am_S} {r : Int64} (h : g_Li_readValue x1 σ = some (r, σ')) : FR [(51, 1), (51, 3)] [] σ σ' := f_Li_readValue_0 h
set_option maxHeartbeats 4000000 in
theorem f_Li_readName_90 {x1 : Int32} {x2 : Int32} {σ σ' : am_S} {r : Int32} {go : Int32 → Int32 → am_S → Option (Int32 × am_S)} (hgo : ∀ {x1 : Int32} {x2 : Int32} {σ σ' : am_S} {r : Int32}, go x1 x2 σ = some (r, σ') → FR [(51, 1), (51, 3), (9, 1), (9, 2), (9, 3)] [] σ σ') (h : g_Li_readName_90 go x1 x2 σ = some (r, σ')) : FR [(51, 1), (51, 3), (9, 1), (9, 2), (9, 3)] [] σ σ' := by
  unfold g_Li_readName_90 at h
  exact hgo h
set_option maxHeartbeats 4000000 in
theorem f_Li_readName_87 {x1 : Int32} {x2 : Int32} {y0 : Int32} {σ σ' : am_S} {r : Int32} {go : Int32 → Int32 → am_S → Option (Int32 × am_S)} (hgo : ∀ {x1 : Int32} {x2 : Int32} {σ σ' : am_S} {r : Int32}, go x1 x2 σ = some (r, σ') → FR [(51, 1), (51, 3), (9, 1), (9, 2), (9, 3)] [] σ σ') (h : g_Li_readName_87 go x1 x2 y0 σ = some (r, σ')) : FR [(51, 1), (51, 3), (9, 1), (9, 2), (9, 3)] [] σ σ' := by
  unfold g_Li_readName_87 at h
  obtain ⟨_, h⟩ := gd_some h
  exact fr_tr (fr_fi fr_rf (List.mem_of_getElem? (i := 1) rfl)) (f_Li_readName_90 hgo h)
set_option maxHeartbeats 4000000 in
theorem f_Li_readName_82 {x1 : Int32} {x2 : Int32} {σ σ' : am_S} {r : Int32} {go : Int32 → Int32 → am_S → Option (Int32 × am_S)} (hgo : ∀ {x1 : Int32} {x2 : Int32} {σ σ' : am_S} {r : Int32}, go x1 x2 σ = some (r, σ') → FR [(51, 1), (51, 3), (9, 1), (9, 2), (9, 3)] [] σ σ') (h : g_Li_readName_82 go x1 x2 σ = some (r, σ')) : FR [(51, 1), (51, 3), (9, 1), (9, 2), (9, 3)] [] σ σ' := by
  unfold g_Li_readName_82 at h
  exact f_Li_readName_87 hgo h
set_option maxHeartbeats 4000000 in
theorem f_Li_readName_62 {x2 : Int32} {y0 : Int32} {σ σ' : am_S} {r : Int32} {go : Int32 → Int32 → am_S → Option (Int32 × am_S)} (hgo : ∀ {x1 : Int32} {x2 : Int32} {σ σ' : am_S} {r : Int32}, go x1 x2 σ = some (r, σ') → FR [(51, 1), (51, 3), (9, 1), (9, 2), (9, 3)] [] σ σ') (h : g_Li_readName_62 go x2 y0 σ = some (r, σ')) : FR [(51, 1), (51, 3), (9, 1), (9, 2), (9, 3)] [] σ σ' := by
  unfold g_Li_readName_62 at h
  by_cases c7 : (σ.1.1 51 3) = 0
  · rw [if_pos c7] at h
    by_cases c10 : y0 = (-1)
    · rw [if_pos c10] at h
      exact f_Li_readName_82 hgo h
    · rw [if_neg c10] at h
      exact f_Li_readName_87 hgo h
  · rw [if_neg c7] at h
    exact f_Li_readName_82 hgo h
set_option maxHeartbeats 4000000 in
theorem f_Li_readName_96 {x1 : Int32} {σ σ' : am_S} {r : Int32} (h : g_Li_readName_96 x1 σ = some (r, σ')) : FR [(51, 1), (51, 3), (9, 1), (9, 2), (9, 3)] [] σ σ' := by
  unfold g_Li_readName_96 at h
  exact fr_lf fr_rf h
set_option maxHeartbeats 4000000 in
theorem f_Li_readName_4 : ∀ (n : Nat) {x1 : Int32} {x2 : Int32} {σ σ' : am_S} {r : Int32} (h : g_Li_readName_4 n x1 x2 σ = some (r, σ')), FR [(51, 1), (51, 3), (9, 1), (9, 2), (9, 3)] [] σ σ' := by
  intro n
  induction n with
  | zero =>
    intro x1 x2 σ σ' r h
    cases h
  | succ n ih =>
  intro x1 x2 σ σ' r h
  unfold g_Li_readName_4 at h
  by_cases c4 : x2 < (σ.1.1 49 6)
  · rw [if_pos c4] at h
    by_cases c7 : x2 < 6
    · rw [if_pos c7] at h
      obtain ⟨_, h⟩ := gd_some h
      obtain ⟨v13, σ13, e13, h⟩ := am_bd_some h
      have f13 : FR [(51, 1), (51, 3), (9, 1), (9, 2), (9, 3)] [] σ σ13 := fr_up (f_Li_readValue e13) (by decide) (fun _ h9 => h9)
      by_cases c18 : x2 = (σ13.1.1 49 7)
      · rw [if_pos c18] at h
        obtain ⟨_, h⟩ := gd_some h
        by_cases c24 : (σ13.2.1 50 x2.toNatClampNeg) = 8
        · rw [if_pos c24] at h
          exact fr_tr f13 (f_Li_readName_62 (fun h => ih h) h)
        · rw [if_neg c24] at h
          obtain ⟨v29, σ29, e29, h⟩ := am_bd_some h
          have f29 : FR [(51, 1), (51, 3), (9, 1), (9, 2), (9, 3)] [] σ σ29 := fr_tr f13 (fr_up (f_Se_textAt e29) (by decide) (fun _ h9 => h9))
          exact fr_tr f29 (f_Li_readName_62 (fun h => ih h) h)
      · rw [if_neg c18] at h
        exact fr_tr f13 (f_Li_readName_90 (fun h => ih h) h)
    · rw [if_neg c7] at h
      exact f_Li_readName_96 h
  · rw [if_neg c4] at h
    exact f_Li_readName_96 h
set_option maxHeartbeats 4000000 in
theorem f_Li_readName_0 {σ σ' : am_S} {r : Int32} (h : g_Li_readName σ = some (r, σ')) : FR [(51, 1), (51, 3), (9, 1), (9, 2), (9, 3)] [] σ σ' := by
  unfold g_Li_readName at h
  exact f_Li_readName_4 4000 h
theorem f_Li_readName {σ σ' : am_S} {r : Int32} (h : g_Li_readName σ = some (r, σ')) : FR [(51, 1), (51, 3), (9, 1), (9, 2), (9, 3)] [] σ σ' := f_Li_readName_0 h
set_option maxHeartbeats 4000000 in
theorem f_Li_readNames_66 {σ σ' : am_S} {r : Int32} (h : g_Li_readNames_66 σ = some (r, σ')) : FR [(49, 6), (49, 7), (51, 1), (51, 3), (9, 1), (9, 2), (9, 3)] [47, 48, 50] σ σ' := by
  unfold g_Li_readNames_66 at h
  exact fr_lf fr_rf h
set_option maxHeartbeats 4000000 in
theorem f_Li_readNames_109 {x1 : Int32} {x2 : Int32} {x3 : Int64} {x5 : Int32} {σ σ' : am_S} {r : Int32} {go : Int32 → Int32 → Int64 → Int32 → am_S → Option (Int32 × am_S)} (hgo : ∀ {x1 : Int32} {x2 : Int32} {x3 : Int64} {x5 : Int32} {σ σ' : am_S} {r : Int32}, go x1 x2 x3 x5 σ = some (r, σ') → FR [(49, 6), (49, 7), (51, 1), (51, 3), (9, 1), (9, 2), (9, 3)] [47, 48, 50] σ σ') (h : g_Li_readNames_109 go x1 x2 x3 x5 σ = some (r, σ')) : FR [(49, 6), (49, 7), (51, 1), (51, 3), (9, 1), (9, 2), (9, 3)] [47, 48, 50] σ σ' := by
  unfold g_Li_readNames_109 at h
  exact hgo h
set_option maxHeartbeats 4000000 in
theorem f_Li_readNames_130 {y0 : Int32} {σ σ' : am_S} {r : Int32} (h : g_Li_readNames_130 y0 σ = some (r, σ')) : FR [(49, 6), (49, 7), (51, 1), (51, 3), (9, 1), (9, 2), (9, 3)] [47, 48, 50] σ σ' := by
  unfold g_Li_readNames_130 at h
  obtain ⟨_, h⟩ := gd_some h
  exact fr_lf fr_rf h
set_option maxHeartbeats 4000000 in
theorem f_Li_readNames_115 {σ σ' : am_S} {r : Int32} (h : g_Li_readNames_115 σ = some (r, σ')) : FR [(49, 6), (49, 7), (51, 1), (51, 3), (9, 1), (9, 2), (9, 3)] [47, 48, 50] σ σ' := by
  unfold g_Li_readNames_115 at h
  by_cases c4 : (σ.1.1 51 3) = 0
  · rw [if_pos c4] at h
    exact f_Li_readNames_130 h
  · rw [if_neg c4] at h
    exact f_Li_readNames_130 h
set_option maxHeartbeats 4000000 in
theorem f_Li_readNames_71 : ∀ (n : Nat) {x1 : Int32} {x2 : Int32} {x3 : Int64} {x5 : Int32} {σ σ' : am_S} {r : Int32} (h : g_Li_readNames_71 n x1 x2 x3 x5 σ = some (r, σ')), FR [(49, 6), (49, 7), (51, 1), (51, 3), (9, 1), (9, 2), (9, 3)] [47, 48, 50] σ σ' := by
  intro n
  induction n with
  | zero =>
    intro x1 x2 x3 x5 σ σ' r h
    cases h
  | succ n ih =>
  intro x1 x2 x3 x5 σ σ' r h
  unfold g_Li_readNames_71 at h
  by_cases c5 : (lg_cmp x5.toInt64 x3) < 0
  · rw [if_pos c5] at h
    by_cases c9 : (σ.1.1 51 3) = 0
    · rw [if_pos c9] at h
      obtain ⟨v11, σ11, e11, h⟩ := am_bd_some h
      have f11 : FR [(49, 6), (49, 7), (51, 1), (51, 3), (9, 1), (9, 2), (9, 3)] [47, 48, 50] σ σ11 := fr_up (f_Li_readName e11) (by decide) (by decide)
      by_cases c14 : x2 = 0
      · rw [if_pos c14] at h
        exact fr_tr f11 (f_Li_readNames_109 (fun h => ih h) h)
      · rw [if_neg c14] at h
        obtain ⟨v19, σ19, e19, h⟩ := am_bd_some h
        have f19 : FR [(49, 6), (49, 7), (51, 1), (51, 3), (9, 1), (9, 2), (9, 3)] [47, 48, 50] σ σ19 := fr_tr f11 (fr_up (f_Ro_addFile e19) (by decide) (by decide))
        exact fr_tr f19 (f_Li_readNames_109 (fun h => ih h) h)
    · rw [if_neg c9] at h
      exact f_Li_readNames_115 h
  · rw [if_neg c5] at h
    exact f_Li_readNames_115 h
set_option maxHeartbeats 4000000 in
theorem f_Li_readNames_61 {x1 : Int32} {x2 : Int32} {x3 : Int64} {y0 : Int32} {y1 : Int64} {σ σ' : am_S} {r : Int32} (h : g_Li_readNames_61 x1 x2 x3 y0 y1 σ = some (r, σ')) : FR [(49, 6), (49, 7), (51, 1), (51, 3), (9, 1), (9, 2), (9, 3)] [47, 48, 50] σ σ' := by
  unfold g_Li_readNames_61 at h
  by_cases c3 : 0 < (lg_cmp y1 y0.toInt64)
  · rw [if_pos c3] at h
    exact f_Li_readNames_66 h
  · rw [if_neg c3] at h
    exact f_Li_readNames_71 4000 h
set_option maxHeartbeats 4000000 in
theorem f_Li_readNames_42 {x1 : Int32} {x2 : Int32} {x3 : Int64} {σ σ' : am_S} {r : Int32} (h : g_Li_readNames_42 x1 x2 x3 σ = some (r, σ')) : FR [(49, 6), (49, 7), (51, 1), (51, 3), (9, 1), (9, 2), (9, 3)] [47, 48, 50] σ σ' := by
  unfold g_Li_readNames_42 at h
  by_cases c4 : (lg_cmp x3 0) < 0
  · rw [if_pos c4] at h
    exact f_Li_readNames_66 h
  · rw [if_neg c4] at h
    by_cases c7 : x2 = 0
    · rw [if_pos c7] at h
      exact f_Li_readNames_61 h
    · rw [if_neg c7] at h
      exact f_Li_readNames_61 h
set_option maxHeartbeats 4000000 in
theorem f_Li_readNames_0 {x1 : Int32} {x2 : Int32} {σ σ' : am_S} {r : Int32} (h : g_Li_readNames x1 x2 σ = some (r, σ')) : FR [(49, 6), (49, 7), (51, 1), (51, 3), (9, 1), (9, 2), (9, 3)] [47, 48, 50] σ σ' := by
  unfold g_Li_readNames at h
  obtain ⟨v2, σ2, e2, h⟩ := am_bd_some h
  have f2 : FR [(49, 6), (49, 7), (51, 1), (51, 3), (9, 1), (9, 2), (9, 3)] [47, 48, 50] σ σ2 := fr_up (f_Li_readForms e2) (by decide) (by decide)
  by_cases c3 : v2 = 0
  · rw [if_pos c3] at h
    exact fr_lf f2 h
  · rw [if_neg c3] at h
    obtain ⟨v6, σ6, e6, h⟩ := am_bd_some h
    have f6 : FR [(49, 6), (49, 7), (51, 1), (51, 3), (9, 1), (9, 2), (9, 3)] [47, 48, 50] σ σ6 := fr_tr f2 (fr_up (f_Cu_uleb e6) (by decide) (by decide))
    by_cases c11 : (σ6.1.1 51 3) = 0
    · rw [if_pos c11] at h
      by_cases c14 : (σ6.1.1 49 6) = 0
      · rw [if_pos c14] at h
        by_cases c16 : x2 = 0
        · rw [if_pos c16] at h
          exact fr_lf f6 h
        · rw [if_neg c16] at h
          exact fr_tr f6 (f_Li_readNames_42 h)
      · rw [if_neg c14] at h
        exact fr_tr f6 (f_Li_readNames_42 h)
    · rw [if_neg c11] at h
      exact fr_lf f6 h
theorem f_Li_readNames {x1 : Int32} {x2 : Int32} {σ σ' : am_S} {r : Int32} (h : g_Li_readNames x1 x2 σ = some (r, σ')) : FR [(49, 6), (49, 7), (51, 1), (51, 3), (9, 1), (9, 2), (9, 3)] [47, 48, 50] σ σ' := f_Li_readNames_0 h
set_option maxHeartbeats 4000000 in
theorem f_Li_restart_0 {σ σ' : am_S} {r : Unit} (h : g_Li_restart σ = some (r, σ')) : FR [(49, 12), (49, 13), (49, 14)] [] σ σ' := by
  unfold g_Li_restart at h
  exact fr_lf (fr_fi (fr_fl (fr_fl fr_rf (List.mem_of_getElem? (i := 0) rfl)) (List.mem_of_getElem? (i := 1) rfl)) (List.mem_of_getElem? (i := 2) rfl)) h
theorem f_Li_restart {σ σ' : am_S} {r : Unit} (h : g_Li_restart σ = some (r, σ')) : FR [(49, 12), (49, 13), (49, 14)] [] σ σ' := f_Li_restart_0 h
set_option maxHeartbeats 4000000 in
theorem f_Li_addRow_31 {σ σ' : am_S} {r : Unit} (h : g_Li_addRow_31 σ = some (r, σ')) : FR [(40, 8), (51, 3)] [41, 42, 43, 44] σ σ' := by
  unfold g_Li_addRow_31 at h
  exact fr_lf fr_rf h
set_option maxHeartbeats 4000000 in
theorem f_Li_addRow_0 {x1 : Int32} {σ σ' : am_S} {r : Unit} (h : g_Li_addRow x1 σ = some (r, σ')) : FR [(40, 8), (51, 3)] [41, 42, 43, 44] σ σ' := by
  unfold g_Li_addRow at h
  obtain ⟨v10, σ10, e10, h⟩ := am_bd_some h
  have f10 : FR [(40, 8), (51, 3)] [41, 42, 43, 44] σ σ10 := fr_up (f_Ro_add e10) (by decide) (fun _ h9 => h9)
  by_cases c11 : v10 = 0
  · rw [if_pos c11] at h
    exact fr_tr (fr_fi f10 (List.mem_of_getElem? (i := 1) rfl)) (f_Li_addRow_31 h)
  · rw [if_neg c11] at h
    exact fr_tr f10 (f_Li_addRow_31 h)
theorem f_Li_addRow {x1 : Int32} {σ σ' : am_S} {r : Unit} (h : g_Li_addRow x1 σ = some (r, σ')) : FR [(40, 8), (51, 3)] [41, 42, 43, 44] σ σ' := f_Li_addRow_0 h
set_option maxHeartbeats 4000000 in
theorem f_Li_special_0 {x1 : Int32} {σ σ' : am_S} {r : Unit} (h : g_Li_special x1 σ = some (r, σ')) : FR [(40, 8), (49, 12), (49, 14), (51, 3)] [41, 42, 43, 44] σ σ' := by
  unfold g_Li_special at h
  obtain ⟨_, h⟩ := gd_some h
  obtain ⟨_, h⟩ := gd_some h
  obtain ⟨v25, σ25, e25, h⟩ := am_bd_some h
  have f25 : FR [(40, 8), (49, 12), (49, 14), (51, 3)] [41, 42, 43, 44] σ σ25 := fr_tr (fr_fi (fr_fl fr_rf (List.mem_of_getElem? (i := 1) rfl)) (List.mem_of_getElem? (i := 2) rfl)) (fr_up (f_Li_addRow e25) (by decide) (fun _ h9 => h9))
  exact fr_lf f25 h
theorem f_Li_special {x1 : Int32} {σ σ' : am_S} {r : Unit} (h : g_Li_special x1 σ = some (r, σ')) : FR [(40, 8), (49, 12), (49, 14), (51, 3)] [41, 42, 43, 44] σ σ' := f_Li_special_0 h
set_option maxHeartbeats 4000000 in
theorem f_Li_extended_74 {σ σ' : am_S} {r : Unit} (h : g_Li_extended_74 σ = some (r, σ')) : FR [(40, 8), (49, 12), (49, 13), (49, 14), (51, 1), (51, 3)] [41, 42, 43, 44] σ σ' := by
  unfold g_Li_extended_74 at h
  exact fr_lf (fr_fi fr_rf (List.mem_of_getElem? (i := 5) rfl)) h
set_option maxHeartbeats 4000000 in
theorem f_Li_extended_120 {x1 : Int64} {x3 : Int32} {σ σ' : am_S} {r : Unit} (h : g_Li_extended_120 x1 x3 σ = some (r, σ')) : FR [(40, 8), (49, 12), (49, 13), (49, 14), (51, 1), (51, 3)] [41, 42, 43, 44] σ σ' := by
  unfold g_Li_extended_120 at h
  exact fr_lf (fr_fi fr_rf (List.mem_of_getElem? (i := 4) rfl)) h
set_option maxHeartbeats 4000000 in
theorem f_Li_extended_39 {x1 : Int64} {x3 : Int32} {x4 : Int32} {y0 : Int32} {σ σ' : am_S} {r : Unit} (h : g_Li_extended_39 x1 x3 x4 y0 σ = some (r, σ')) : FR [(40, 8), (49, 12), (49, 13), (49, 14), (51, 1), (51, 3)] [41, 42, 43, 44] σ σ' := by
  unfold g_Li_extended_39 at h
  by_cases c5 : (σ.1.1 51 3) = 0
  · rw [if_pos c5] at h
    by_cases c10 : (lg_cmp x1 y0.toInt64) < 0
    · rw [if_pos c10] at h
      exact f_Li_extended_74 h
    · rw [if_neg c10] at h
      by_cases c19 : 0 < (lg_cmp x1 (((σ.1.1 51 2) - x3).toInt64))
      · rw [if_pos c19] at h
        exact f_Li_extended_74 h
      · rw [if_neg c19] at h
        by_cases c22 : x4 = 1
        · rw [if_pos c22] at h
          obtain ⟨v25, σ25, e25, h⟩ := am_bd_some h
          have f25 : FR [(40, 8), (49, 12), (49, 13), (49, 14), (51, 1), (51, 3)] [41, 42, 43, 44] σ σ25 := fr_up (f_Li_addRow e25) (by decide) (fun _ h9 => h9)
          obtain ⟨v27, σ27, e27, h⟩ := am_bd_some h
          have f27 : FR [(40, 8), (49, 12), (49, 13), (49, 14), (51, 1), (51, 3)] [41, 42, 43, 44] σ σ27 := fr_tr f25 (fr_up (f_Li_restart e27) (by decide) (by decide))
          exact fr_tr f27 (f_Li_extended_120 h)
        · rw [if_neg c22] at h
          by_cases c25 : x4 = 2
          · rw [if_pos c25] at h
            obtain ⟨v30, σ30, e30, h⟩ := am_bd_some h
            have f30 : FR [(40, 8), (49, 12), (49, 13), (49, 14), (51, 1), (51, 3)] [41, 42, 43, 44] σ σ30 := fr_up (f_Cu_number e30) (by decide) (by decide)
            exact fr_tr (fr_fl f30 (List.mem_of_getElem? (i := 1) rfl)) (f_Li_extended_120 h)
          · rw [if_neg c25] at h
            exact f_Li_extended_120 h
  · rw [if_neg c5] at h
    exact f_Li_extended_74 h
set_option maxHeartbeats 4000000 in
theorem f_Li_extended_0 {σ σ' : am_S} {r : Unit} (h : g_Li_extended σ = some (r, σ')) : FR [(40, 8), (49, 12), (49, 13), (49, 14), (51, 1), (51, 3)] [41, 42, 43, 44] σ σ' := by
  unfold g_Li_extended at h
  obtain ⟨v3, σ3, e3, h⟩ := am_bd_some h
  have f3 : FR [(40, 8), (49, 12), (49, 13), (49, 14), (51, 1), (51, 3)] [41, 42, 43, 44] σ σ3 := fr_up (f_Cu_uleb e3) (by decide) (by decide)
  obtain ⟨v12, σ12, e12, h⟩ := am_bd_some h
  have f12 : FR [(40, 8), (49, 12), (49, 13), (49, 14), (51, 1), (51, 3)] [41, 42, 43, 44] σ σ12 := fr_tr f3 (fr_up (f_Cu_number e12) (by decide) (by decide))
  by_cases c17 : v12.toInt32 = 2
  · rw [if_pos c17] at h
    exact fr_tr f12 (f_Li_extended_39 h)
  · rw [if_neg c17] at h
    exact fr_tr f12 (f_Li_extended_39 h)
theorem f_Li_extended {σ σ' : am_S} {r : Unit} (h : g_Li_extended σ = some (r, σ')) : FR [(40, 8), (49, 12), (49, 13), (49, 14), (51, 1), (51, 3)] [41, 42, 43, 44] σ σ' := f_Li_extended_0 h
set_option maxHeartbeats 4000000 in
theorem f_Li_passOperands_49 {σ σ' : am_S} {r : Unit} (h : g_Li_passOperands_49 σ = some (r, σ')) : FR [(51, 1), (51, 3)] [] σ σ' := by
  unfold g_Li_passOperands_49 at h
  exact fr_lf fr_rf h
set_option maxHeartbeats 4000000 in
theorem f_Li_passOperands_20 : ∀ (n : Nat) {x2 : Int32} {x3 : Int32} {σ σ' : am_S} {r : Unit} (h : g_Li_passOperands_20 n x2 x3 σ = some (r, σ')), FR [(51, 1), (51, 3)] [] σ σ' := by
  intro n
  induction n with
  | zero =>
    intro x2 x3 σ σ' r h
    cases h
  | succ n ih =>
  intro x2 x3 σ σ' r h
  unfold g_Li_passOperands_20 at h
  by_cases c3 : x3 < x2
  · rw [if_pos c3] at h
    by_cases c7 : (σ.1.1 51 3) = 0
    · rw [if_pos c7] at h
      obtain ⟨v10, σ10, e10, h⟩ := am_bd_some h
      have f10 : FR [(51, 1), (51, 3)] [] σ σ10 := f_Cu_uleb e10
      exact fr_tr f10 (ih h)
    · rw [if_neg c7] at h
      exact f_Li_passOperands_49 h
  · rw [if_neg c3] at h
    exact f_Li_passOperands_49 h
set_option maxHeartbeats 4000000 in
theorem f_Li_passOperands_0 {x1 : Int32} {σ σ' : am_S} {r : Unit} (h : g_Li_passOperands x1 σ = some (r, σ')) : FR [(51, 1), (51, 3)] [] σ σ' := by
  unfold g_Li_passOperands at h
  obtain ⟨_, h⟩ := gd_some h
  exact f_Li_passOperands_20 4000 h
theorem f_Li_passOperands {x1 : Int32} {σ σ' : am_S} {r : Unit} (h : g_Li_passOperands x1 σ = some (r, σ')) : FR [(51, 1), (51, 3)] [] σ σ' := f_Li_passOperands_0 h
set_option maxHeartbeats 4000000 in
theorem f_Li_standard_190 {σ σ' : am_S} {r : Unit} (h : g_Li_standard_190 σ = some (r, σ')) : FR [(40, 8), (49, 12), (49, 13), (49, 14), (51, 1), (51, 3)] [41, 42, 43, 44] σ σ' := by
  unfold g_Li_standard_190 at h
  exact fr_lf fr_rf h
set_option maxHeartbeats 4000000 in
theorem f_Li_standard_125 {σ σ' : am_S} {r : Unit} (h : g_Li_standard_125 σ = some (r, σ')) : FR [(40, 8), (49, 12), (49, 13), (49, 14), (51, 1), (51, 3)] [41, 42, 43, 44] σ σ' := by
  unfold g_Li_standard_125 at h
  obtain ⟨v3, σ3, e3, h⟩ := am_bd_some h
  have f3 : FR [(40, 8), (49, 12), (49, 13), (49, 14), (51, 1), (51, 3)] [41, 42, 43, 44] σ σ3 := fr_up (f_Cu_uleb e3) (by decide) (by decide)
  exact fr_tr f3 (f_Li_standard_190 h)
set_option maxHeartbeats 4000000 in
theorem f_Li_standard_136 {σ σ' : am_S} {r : Unit} (h : g_Li_standard_136 σ = some (r, σ')) : FR [(40, 8), (49, 12), (49, 13), (49, 14), (51, 1), (51, 3)] [41, 42, 43, 44] σ σ' := by
  unfold g_Li_standard_136 at h
  exact f_Li_standard_190 h
set_option maxHeartbeats 4000000 in
theorem f_Li_standard_0 {x1 : Int32} {σ σ' : am_S} {r : Unit} (h : g_Li_standard x1 σ = some (r, σ')) : FR [(40, 8), (49, 12), (49, 13), (49, 14), (51, 1), (51, 3)] [41, 42, 43, 44] σ σ' := by
  unfold g_Li_standard at h
  by_cases d2_0 : x1 = 1
  · rw [if_pos d2_0] at h
    obtain ⟨v5, σ5, e5, h⟩ := am_bd_some h
    have f5 : FR [(40, 8), (49, 12), (49, 13), (49, 14), (51, 1), (51, 3)] [41, 42, 43, 44] σ σ5 := fr_up (f_Li_addRow e5) (by decide) (fun _ h9 => h9)
    exact fr_tr f5 (f_Li_standard_190 h)
  rw [if_neg d2_0] at h
  by_cases d2_1 : x1 = 2
  · rw [if_pos d2_1] at h
    obtain ⟨v8, σ8, e8, h⟩ := am_bd_some h
    have f8 : FR [(40, 8), (49, 12), (49, 13), (49, 14), (51, 1), (51, 3)] [41, 42, 43, 44] σ σ8 := fr_up (f_Cu_uleb e8) (by decide) (by decide)
    exact fr_tr (fr_fl f8 (List.mem_of_getElem? (i := 1) rfl)) (f_Li_standard_190 h)
  rw [if_neg d2_1] at h
  by_cases d2_2 : x1 = 3
  · rw [if_pos d2_2] at h
    obtain ⟨v8, σ8, e8, h⟩ := am_bd_some h
    have f8 : FR [(40, 8), (49, 12), (49, 13), (49, 14), (51, 1), (51, 3)] [41, 42, 43, 44] σ σ8 := fr_up (f_Cu_sleb e8) (by decide) (by decide)
    exact fr_tr (fr_fi f8 (List.mem_of_getElem? (i := 3) rfl)) (f_Li_standard_190 h)
  rw [if_neg d2_2] at h
  by_cases d2_3 : x1 = 4
  · rw [if_pos d2_3] at h
    obtain ⟨v6, σ6, e6, h⟩ := am_bd_some h
    have f6 : FR [(40, 8), (49, 12), (49, 13), (49, 14), (51, 1), (51, 3)] [41, 42, 43, 44] σ σ6 := fr_up (f_Cu_uleb e6) (by decide) (by decide)
    exact fr_tr (fr_fl f6 (List.mem_of_getElem? (i := 2) rfl)) (f_Li_standard_190 h)
  rw [if_neg d2_3] at h
  by_cases d2_4 : x1 = 5
  · rw [if_pos d2_4] at h
    exact f_Li_standard_125 h
  rw [if_neg d2_4] at h
  by_cases d2_5 : x1 = 6
  · rw [if_pos d2_5] at h
    exact f_Li_standard_136 h
  rw [if_neg d2_5] at h
  by_cases d2_6 : x1 = 7
  · rw [if_pos d2_6] at h
    exact f_Li_standard_136 h
  rw [if_neg d2_6] at h
  by_cases d2_7 : x1 = 8
  · rw [if_pos d2_7] at h
    obtain ⟨_, h⟩ := gd_some h
    exact fr_tr (fr_fl fr_rf (List.mem_of_getElem? (i := 1) rfl)) (f_Li_standard_190 h)
  rw [if_neg d2_7] at h
  by_cases d2_8 : x1 = 9
  · rw [if_pos d2_8] at h
    obtain ⟨v9, σ9, e9, h⟩ := am_bd_some h
    have f9 : FR [(40, 8), (49, 12), (49, 13), (49, 14), (51, 1), (51, 3)] [41, 42, 43, 44] σ σ9 := fr_up (f_Cu_number e9) (by decide) (by decide)
    exact fr_tr (fr_fl f9 (List.mem_of_getElem? (i := 1) rfl)) (f_Li_standard_190 h)
  rw [if_neg d2_8] at h
  by_cases d2_9 : x1 = 10
  · rw [if_pos d2_9] at h
    exact f_Li_standard_136 h
  rw [if_neg d2_9] at h
  by_cases d2_10 : x1 = 11
  · rw [if_pos d2_10] at h
    exact f_Li_standard_136 h
  rw [if_neg d2_10] at h
  by_cases d2_11 : x1 = 12
  · rw [if_pos d2_11] at h
    exact f_Li_standard_125 h
  rw [if_neg d2_11] at h
  obtain ⟨v5, σ5, e5, h⟩ := am_bd_some h
  have f5 : FR [(40, 8), (49, 12), (49, 13), (49, 14), (51, 1), (51, 3)] [41, 42, 43, 44] σ σ5 := fr_up (f_Li_passOperands e5) (by decide) (by decide)
  exact fr_tr f5 (f_Li_standard_190 h)
theorem f_Li_standard {x1 : Int32} {σ σ' : am_S} {r : Unit} (h : g_Li_standard x1 σ = some (r, σ')) : FR [(40, 8), (49, 12), (49, 13), (49, 14), (51, 1), (51, 3)] [41, 42, 43, 44] σ σ' := f_Li_standard_0 h
