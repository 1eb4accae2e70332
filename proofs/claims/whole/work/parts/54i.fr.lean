set_option maxHeartbeats 4000000 in
theorem f_Mo_readSections_260 {x8 : Int32} {σ σ' : am_S} {r : Int32} (h : g_Mo_readSections_260 x8 σ = some (r, σ')) : FR [(0, 9)] [3, 4, 5] σ σ' := by
  unfold g_Mo_readSections_260 at h
  obtain ⟨_, h⟩ := gd_some h
  exact fr_lf fr_rf h
set_option maxHeartbeats 4000000 in
theorem f_Mo_readSections_223 : ∀ (n : Nat) {x3 : Int32} {x6 : Int32} {x7 : Int32} {x8 : Int32} {x9 : Int32} {σ σ' : am_S} {r : Int32} (h : g_Mo_readSections_223 n x3 x6 x7 x8 x9 σ = some (r, σ')), FR [(0, 9)] [3, 4, 5] σ σ' := by
  intro n
  induction n with
  | zero =>
    intro x3 x6 x7 x8 x9 σ σ' r h
    cases h
  | succ n ih =>
  intro x3 x6 x7 x8 x9 σ σ' r h
  unfold g_Mo_readSections_223 at h
  by_cases c4 : x9 < (σ.1.1 0 9)
  · rw [if_pos c4] at h
    by_cases c6 : x8 = 0
    · rw [if_pos c6] at h
      exact f_Mo_readSections_260 h
    · rw [if_neg c6] at h
      obtain ⟨v15, σ15, e15, h⟩ := am_bd_some h
      have f15 : FR [(0, 9)] [3, 4, 5] σ σ15 := fr_up (f_Mo_names e15) (by decide) (fun _ h9 => h9)
      exact fr_tr f15 (ih h)
  · rw [if_neg c4] at h
    exact f_Mo_readSections_260 h
set_option maxHeartbeats 4000000 in
theorem f_Mo_readSections_215 {x3 : Int32} {x6 : Int32} {y0 : Int32} {σ σ' : am_S} {r : Int32} (h : g_Mo_readSections_215 x3 x6 y0 σ = some (r, σ')) : FR [(0, 9)] [3, 4, 5] σ σ' := by
  unfold g_Mo_readSections_215 at h
  exact f_Mo_readSections_223 4000 h
set_option maxHeartbeats 4000000 in
theorem f_Mo_readSections_189 {x3 : Int32} {x4 : Int32} {x5 : Int32} {y0 : Int32} {σ σ' : am_S} {r : Int32} (h : g_Mo_readSections_189 x3 x4 x5 y0 σ = some (r, σ')) : FR [(0, 9)] [3, 4, 5] σ σ' := by
  unfold g_Mo_readSections_189 at h
  by_cases c3 : x5 = 0
  · rw [if_pos c3] at h
    obtain ⟨v10, σ10, e10, h⟩ := am_bd_some h
    have f10 : FR [(0, 9)] [3, 4, 5] σ σ10 := fr_up (f_Mo_peek e10) (fun _ h9 => (by cases h9)) (fun _ h9 => (by cases h9))
    exact fr_tr f10 (f_Mo_readSections_215 h)
  · rw [if_neg c3] at h
    exact f_Mo_readSections_215 h
set_option maxHeartbeats 4000000 in
theorem f_Mo_readSections_166 {x3 : Int32} {x4 : Int32} {y0 : Int32} {σ σ' : am_S} {r : Int32} (h : g_Mo_readSections_166 x3 x4 y0 σ = some (r, σ')) : FR [(0, 9)] [3, 4, 5] σ σ' := by
  unfold g_Mo_readSections_166 at h
  by_cases c3 : y0 = 0
  · rw [if_pos c3] at h
    obtain ⟨v9, σ9, e9, h⟩ := am_bd_some h
    have f9 : FR [(0, 9)] [3, 4, 5] σ σ9 := fr_up (f_Mo_peek e9) (fun _ h9 => (by cases h9)) (fun _ h9 => (by cases h9))
    exact fr_tr f9 (f_Mo_readSections_189 h)
  · rw [if_neg c3] at h
    exact f_Mo_readSections_189 h
set_option maxHeartbeats 4000000 in
theorem f_Mo_readSections_99 : ∀ (n : Nat) {x3 : Int32} {x4 : Int32} {σ σ' : am_S} {r : Int32} (h : g_Mo_readSections_99 n x3 x4 σ = some (r, σ')), FR [(0, 9)] [3, 4, 5] σ σ' := by
  intro n
  induction n with
  | zero =>
    intro x3 x4 σ σ' r h
    cases h
  | succ n ih =>
  intro x3 x4 σ σ' r h
  unfold g_Mo_readSections_99 at h
  by_cases c4 : x4 < (σ.1.1 0 9)
  · rw [if_pos c4] at h
    obtain ⟨v11, σ11, e11, h⟩ := am_bd_some h
    have f11 : FR [(0, 9)] [3, 4, 5] σ σ11 := fr_up (f_Mo_lies e11) (fun _ h9 => (by cases h9)) (fun _ h9 => (by cases h9))
    by_cases c12 : v11 = 0
    · rw [if_pos c12] at h
      exact fr_lf f11 h
    · rw [if_neg c12] at h
      exact fr_tr f11 (ih h)
  · rw [if_neg c4] at h
    obtain ⟨v10, σ10, e10, h⟩ := am_bd_some h
    have f10 : FR [(0, 9)] [3, 4, 5] σ σ10 := fr_up (f_Mo_peek e10) (fun _ h9 => (by cases h9)) (fun _ h9 => (by cases h9))
    obtain ⟨v20, σ20, e20, h⟩ := am_bd_some h
    have f20 : FR [(0, 9)] [3, 4, 5] σ σ20 := fr_tr f10 (fr_up (f_Mo_peek e20) (fun _ h9 => (by cases h9)) (fun _ h9 => (by cases h9)))
    by_cases c23 : (lg_cmp v20 8) = 0
    · rw [if_pos c23] at h
      exact fr_tr f20 (f_Mo_readSections_166 h)
    · rw [if_neg c23] at h
      exact fr_tr f20 (f_Mo_readSections_166 h)
set_option maxHeartbeats 4000000 in
theorem f_Mo_readSections_59 : ∀ (n : Nat) {x3 : Int32} {x4 : Int32} {σ σ' : am_S} {r : Int32} (h : g_Mo_readSections_59 n x3 x4 σ = some (r, σ')), FR [(0, 9)] [3, 4, 5] σ σ' := by
  intro n
  induction n with
  | zero =>
    intro x3 x4 σ σ' r h
    cases h
  | succ n ih =>
  intro x3 x4 σ σ' r h
  unfold g_Mo_readSections_59 at h
  by_cases c3 : x4 < 10
  · rw [if_pos c3] at h
    obtain ⟨_, h⟩ := gd_some h
    obtain ⟨_, h⟩ := gd_some h
    obtain ⟨_, h⟩ := gd_some h
    exact fr_tr (fr_ai (fr_ai (fr_ai fr_rf (List.mem_of_getElem? (i := 2) rfl)) (List.mem_of_getElem? (i := 0) rfl)) (List.mem_of_getElem? (i := 1) rfl)) (ih h)
  · rw [if_neg c3] at h
    exact f_Mo_readSections_99 4000 h
set_option maxHeartbeats 4000000 in
theorem f_Mo_readSections_0 {σ σ' : am_S} {r : Int32} (h : g_Mo_readSections σ = some (r, σ')) : FR [(0, 9)] [3, 4, 5] σ σ' := by
  unfold g_Mo_readSections at h
  obtain ⟨v2, σ2, e2, h⟩ := am_bd_some h
  have f2 : FR [(0, 9)] [3, 4, 5] σ σ2 := fr_up (f_Mo_isHead e2) (fun _ h9 => (by cases h9)) (fun _ h9 => (by cases h9))
  by_cases c3 : v2 = 0
  · rw [if_pos c3] at h
    exact fr_lf f2 h
  · rw [if_neg c3] at h
    obtain ⟨v8, σ8, e8, h⟩ := am_bd_some h
    have f8 : FR [(0, 9)] [3, 4, 5] σ σ8 := fr_tr f2 (fr_up (f_Mo_peek e8) (fun _ h9 => (by cases h9)) (fun _ h9 => (by cases h9)))
    obtain ⟨v14, σ14, e14, h⟩ := am_bd_some h
    have f14 : FR [(0, 9)] [3, 4, 5] σ σ14 := fr_tr (fr_fi f8 (List.mem_of_getElem? (i := 0) rfl)) (fr_up (f_Mo_peek e14) (fun _ h9 => (by cases h9)) (fun _ h9 => (by cases h9)))
    obtain ⟨v26, σ26, e26, h⟩ := am_bd_some h
    have f26 : FR [(0, 9)] [3, 4, 5] σ σ26 := fr_tr f14 (fr_up (f_Mo_in e26) (fun _ h9 => (by cases h9)) (fun _ h9 => (by cases h9)))
    by_cases c27 : v26 = 0
    · rw [if_pos c27] at h
      exact fr_lf f26 h
    · rw [if_neg c27] at h
      exact fr_tr f26 (f_Mo_readSections_59 4000 h)
theorem f_Mo_readSections {σ σ' : am_S} {r : Int32} (h : g_Mo_readSections σ = some (r, σ')) : FR [(0, 9)] [3, 4, 5] σ σ' := f_Mo_readSections_0 h
set_option maxHeartbeats 4000000 in
theorem f_Mo_isForm_184 {σ σ' : am_S} {r : Int32} (h : g_Mo_isForm_184 σ = some (r, σ')) : FR [] [] σ σ' := by
  unfold g_Mo_isForm_184 at h
  exact fr_lf fr_rf h
set_option maxHeartbeats 4000000 in
theorem f_Mo_isForm_186 {σ σ' : am_S} {r : Int32} (h : g_Mo_isForm_186 σ = some (r, σ')) : FR [] [] σ σ' := by
  unfold g_Mo_isForm_186 at h
  exact fr_lf fr_rf h
set_option maxHeartbeats 4000000 in
theorem f_Mo_isForm_188 {σ σ' : am_S} {r : Int32} (h : g_Mo_isForm_188 σ = some (r, σ')) : FR [] [] σ σ' := by
  unfold g_Mo_isForm_188 at h
  exact fr_lf fr_rf h
set_option maxHeartbeats 4000000 in
theorem f_Mo_isForm_19 {y0 : Int64} {σ σ' : am_S} {r : Int32} (h : g_Mo_isForm_19 y0 σ = some (r, σ')) : FR [] [] σ σ' := by
  unfold g_Mo_isForm_19 at h
  by_cases d2_0 : y0.toInt32 = 1
  · rw [if_pos d2_0] at h
    exact f_Mo_isForm_184 h
  rw [if_neg d2_0] at h
  by_cases d2_1 : y0.toInt32 = 5
  · rw [if_pos d2_1] at h
    exact f_Mo_isForm_184 h
  rw [if_neg d2_1] at h
  by_cases d2_2 : y0.toInt32 = 6
  · rw [if_pos d2_2] at h
    exact f_Mo_isForm_184 h
  rw [if_neg d2_2] at h
  by_cases d2_3 : y0.toInt32 = 7
  · rw [if_pos d2_3] at h
    exact f_Mo_isForm_184 h
  rw [if_neg d2_3] at h
  by_cases d2_4 : y0.toInt32 = 8
  · rw [if_pos d2_4] at h
    exact f_Mo_isForm_184 h
  rw [if_neg d2_4] at h
  by_cases d2_5 : y0.toInt32 = 11
  · rw [if_pos d2_5] at h
    exact f_Mo_isForm_184 h
  rw [if_neg d2_5] at h
  by_cases d2_6 : y0.toInt32 = 13
  · rw [if_pos d2_6] at h
    exact f_Mo_isForm_184 h
  rw [if_neg d2_6] at h
  by_cases d2_7 : y0.toInt32 = 14
  · rw [if_pos d2_7] at h
    exact f_Mo_isForm_184 h
  rw [if_neg d2_7] at h
  by_cases d2_8 : y0.toInt32 = 15
  · rw [if_pos d2_8] at h
    exact f_Mo_isForm_184 h
  rw [if_neg d2_8] at h
  by_cases d2_9 : y0.toInt32 = 19
  · rw [if_pos d2_9] at h
    exact f_Mo_isForm_186 h
  rw [if_neg d2_9] at h
  by_cases d2_10 : y0.toInt32 = 23
  · rw [if_pos d2_10] at h
    exact f_Mo_isForm_186 h
  rw [if_neg d2_10] at h
  by_cases d2_11 : y0.toInt32 = 24
  · rw [if_pos d2_11] at h
    exact f_Mo_isForm_186 h
  rw [if_neg d2_11] at h
  by_cases d2_12 : y0.toInt32 = 25
  · rw [if_pos d2_12] at h
    exact f_Mo_isForm_186 h
  rw [if_neg d2_12] at h
  by_cases d2_13 : y0.toInt32 = 27
  · rw [if_pos d2_13] at h
    exact f_Mo_isForm_186 h
  rw [if_neg d2_13] at h
  by_cases d2_14 : y0.toInt32 = 31
  · rw [if_pos d2_14] at h
    exact f_Mo_isForm_186 h
  rw [if_neg d2_14] at h
  by_cases d2_15 : y0.toInt32 = 33
  · rw [if_pos d2_15] at h
    exact f_Mo_isForm_186 h
  rw [if_neg d2_15] at h
  by_cases d2_16 : y0.toInt32 = 35
  · rw [if_pos d2_16] at h
    exact f_Mo_isForm_186 h
  rw [if_neg d2_16] at h
  by_cases d2_17 : y0.toInt32 = 37
  · rw [if_pos d2_17] at h
    exact f_Mo_isForm_186 h
  rw [if_neg d2_17] at h
  exact f_Mo_isForm_188 h
set_option maxHeartbeats 4000000 in
theorem f_Mo_isForm_14 {σ σ' : am_S} {r : Int32} (h : g_Mo_isForm_14 σ = some (r, σ')) : FR [] [] σ σ' := by
  unfold g_Mo_isForm_14 at h
  exact f_Mo_isForm_19 h
set_option maxHeartbeats 4000000 in
theorem f_Mo_isForm_0 {x0 : Int64} {σ σ' : am_S} {r : Int32} (h : g_Mo_isForm x0 σ = some (r, σ')) : FR [] [] σ σ' := by
  unfold g_Mo_isForm at h
  by_cases c4 : (lg_cmp x0 0) < 0
  · rw [if_pos c4] at h
    exact f_Mo_isForm_14 h
  · rw [if_neg c4] at h
    by_cases c8 : 0 < (lg_cmp x0 255)
    · rw [if_pos c8] at h
      exact f_Mo_isForm_14 h
    · rw [if_neg c8] at h
      exact f_Mo_isForm_19 h
theorem f_Mo_isForm {x0 : Int64} {σ σ' : am_S} {r : Int32} (h : g_Mo_isForm x0 σ = some (r, σ')) : FR [] [] σ σ' := f_Mo_isForm_0 h
set_option maxHeartbeats 4000000 in
theorem f_Mo_readAttributes_75 {σ σ' : am_S} {r : Int32} (h : g_Mo_readAttributes_75 σ = some (r, σ')) : FR [(0, 6), (0, 8)] [8, 9, 11, 12] σ σ' := by
  unfold g_Mo_readAttributes_75 at h
  exact fr_lf fr_rf h
set_option maxHeartbeats 4000000 in
theorem f_Mo_readAttributes_147 {x1 : Int32} {x2 : Int32} {σ σ' : am_S} {r : Int32} {go : Int32 → Int32 → am_S → Option (Int32 × am_S)} (hgo : ∀ {x1 : Int32} {x2 : Int32} {σ σ' : am_S} {r : Int32}, go x1 x2 σ = some (r, σ') → FR [(0, 6), (0, 8)] [8, 9, 11, 12] σ σ') (h : g_Mo_readAttributes_147 go x1 x2 σ = some (r, σ')) : FR [(0, 6), (0, 8)] [8, 9, 11, 12] σ σ' := by
  unfold g_Mo_readAttributes_147 at h
  exact hgo h
set_option maxHeartbeats 4000000 in
theorem f_Mo_readAttributes_136 {x1 : Int32} {x2 : Int32} {y0 : Int64} {y1 : Int32} {σ σ' : am_S} {r : Int32} {go : Int32 → Int32 → am_S → Option (Int32 × am_S)} (hgo : ∀ {x1 : Int32} {x2 : Int32} {σ σ' : am_S} {r : Int32}, go x1 x2 σ = some (r, σ') → FR [(0, 6), (0, 8)] [8, 9, 11, 12] σ σ') (h : g_Mo_readAttributes_136 go x1 x2 y0 y1 σ = some (r, σ')) : FR [(0, 6), (0, 8)] [8, 9, 11, 12] σ σ' := by
  unfold g_Mo_readAttributes_136 at h
  obtain ⟨_, h⟩ := gd_some h
  obtain ⟨_, h⟩ := gd_some h
  obtain ⟨_, h⟩ := gd_some h
  exact fr_tr (fr_ai (fr_al fr_rf (List.mem_of_getElem? (i := 1) rfl)) (List.mem_of_getElem? (i := 2) rfl)) (f_Mo_readAttributes_147 hgo h)
set_option maxHeartbeats 4000000 in
theorem f_Mo_readAttributes_77 {x1 : Int32} {x2 : Int32} {x3 : Int64} {x5 : Int64} {σ σ' : am_S} {r : Int32} {go : Int32 → Int32 → am_S → Option (Int32 × am_S)} (hgo : ∀ {x1 : Int32} {x2 : Int32} {σ σ' : am_S} {r : Int32}, go x1 x2 σ = some (r, σ') → FR [(0, 6), (0, 8)] [8, 9, 11, 12] σ σ') (h : g_Mo_readAttributes_77 go x1 x2 x3 x5 σ = some (r, σ')) : FR [(0, 6), (0, 8)] [8, 9, 11, 12] σ σ' := by
  unfold g_Mo_readAttributes_77 at h
  by_cases c2 : x2 = 0
  · rw [if_pos c2] at h
    exact f_Mo_readAttributes_147 hgo h
  · rw [if_neg c2] at h
    obtain ⟨_, h⟩ := gd_some h
    obtain ⟨_, h⟩ := gd_some h
    obtain ⟨_, h⟩ := gd_some h
    by_cases c29 : (lg_cmp x5 33) = 0
    · rw [if_pos c29] at h
      obtain ⟨v32, σ32, e32, h⟩ := am_bd_some h
      have f32 : FR [(0, 6), (0, 8)] [8, 9, 11, 12] σ σ32 := fr_tr (fr_ai (fr_al fr_rf (List.mem_of_getElem? (i := 0) rfl)) (List.mem_of_getElem? (i := 3) rfl)) (fr_up (f_Mo_leb e32) (fun _ h9 => h9) (by decide))
      exact fr_tr f32 (f_Mo_readAttributes_136 hgo h)
    · rw [if_neg c29] at h
      exact fr_tr (fr_ai (fr_al fr_rf (List.mem_of_getElem? (i := 0) rfl)) (List.mem_of_getElem? (i := 3) rfl)) (f_Mo_readAttributes_136 hgo h)
set_option maxHeartbeats 4000000 in
theorem f_Mo_readAttributes_51 {x1 : Int32} {x3 : Int64} {x5 : Int64} {y0 : Int32} {σ σ' : am_S} {r : Int32} {go : Int32 → Int32 → am_S → Option (Int32 × am_S)} (hgo : ∀ {x1 : Int32} {x2 : Int32} {σ σ' : am_S} {r : Int32}, go x1 x2 σ = some (r, σ') → FR [(0, 6), (0, 8)] [8, 9, 11, 12] σ σ') (h : g_Mo_readAttributes_51 go x1 x3 x5 y0 σ = some (r, σ')) : FR [(0, 6), (0, 8)] [8, 9, 11, 12] σ σ' := by
  unfold g_Mo_readAttributes_51 at h
  by_cases c3 : y0 = 0
  · rw [if_pos c3] at h
    exact f_Mo_readAttributes_77 hgo h
  · rw [if_neg c3] at h
    obtain ⟨_, h⟩ := gd_some h
    by_cases c9 : (σ.2.1 11 x1.toNatClampNeg) = 12
    · rw [if_pos c9] at h
      exact f_Mo_readAttributes_75 h
    · rw [if_neg c9] at h
      obtain ⟨v11, σ11, e11, h⟩ := am_bd_some h
      have f11 : FR [(0, 6), (0, 8)] [8, 9, 11, 12] σ σ11 := fr_up (f_Mo_isForm e11) (fun _ h9 => (by cases h9)) (fun _ h9 => (by cases h9))
      by_cases c12 : v11 = 0
      · rw [if_pos c12] at h
        exact fr_tr f11 (f_Mo_readAttributes_75 h)
      · rw [if_neg c12] at h
        exact fr_tr f11 (f_Mo_readAttributes_77 hgo h)
set_option maxHeartbeats 4000000 in
theorem f_Mo_readAttributes_46 {x1 : Int32} {x3 : Int64} {x5 : Int64} {σ σ' : am_S} {r : Int32} {go : Int32 → Int32 → am_S → Option (Int32 × am_S)} (hgo : ∀ {x1 : Int32} {x2 : Int32} {σ σ' : am_S} {r : Int32}, go x1 x2 σ = some (r, σ') → FR [(0, 6), (0, 8)] [8, 9, 11, 12] σ σ') (h : g_Mo_readAttributes_46 go x1 x3 x5 σ = some (r, σ')) : FR [(0, 6), (0, 8)] [8, 9, 11, 12] σ σ' := by
  unfold g_Mo_readAttributes_46 at h
  exact f_Mo_readAttributes_51 hgo h
set_option maxHeartbeats 4000000 in
theorem f_Mo_readAttributes_50 {x1 : Int32} {x3 : Int64} {x5 : Int64} {σ σ' : am_S} {r : Int32} {go : Int32 → Int32 → am_S → Option (Int32 × am_S)} (hgo : ∀ {x1 : Int32} {x2 : Int32} {σ σ' : am_S} {r : Int32}, go x1 x2 σ = some (r, σ') → FR [(0, 6), (0, 8)] [8, 9, 11, 12] σ σ') (h : g_Mo_readAttributes_50 go x1 x3 x5 σ = some (r, σ')) : FR [(0, 6), (0, 8)] [8, 9, 11, 12] σ σ' := by
  unfold g_Mo_readAttributes_50 at h
  exact f_Mo_readAttributes_51 hgo h
set_option maxHeartbeats 4000000 in
theorem f_Mo_readAttributes_162 {y0 : Int32} {σ σ' : am_S} {r : Int32} (h : g_Mo_readAttributes_162 y0 σ = some (r, σ')) : FR [(0, 6), (0, 8)] [8, 9, 11, 12] σ σ' := by
  unfold g_Mo_readAttributes_162 at h
  obtain ⟨_, h⟩ := gd_some h
  exact fr_lf fr_rf h
set_option maxHeartbeats 4000000 in
theorem f_Mo_readAttributes_9 : ∀ (n : Nat) {x1 : Int32} {x2 : Int32} {σ σ' : am_S} {r : Int32} (h : g_Mo_readAttributes_9 n x1 x2 σ = some (r, σ')), FR [(0, 6), (0, 8)] [8, 9, 11, 12] σ σ' := by
  intro n
  induction n with
  | zero =>
    intro x1 x2 σ σ' r h
    cases h
  | succ n ih =>
  intro x1 x2 σ σ' r h
  unfold g_Mo_readAttributes_9 at h
  by_cases c2 : x2 = 0
  · rw [if_pos c2] at h
    by_cases c5 : (σ.1.1 0 8) = 0
    · rw [if_pos c5] at h
      exact f_Mo_readAttributes_162 h
    · rw [if_neg c5] at h
      exact f_Mo_readAttributes_162 h
  · rw [if_neg c2] at h
    obtain ⟨v5, σ5, e5, h⟩ := am_bd_some h
    have f5 : FR [(0, 6), (0, 8)] [8, 9, 11, 12] σ σ5 := fr_up (f_Mo_leb e5) (fun _ h9 => h9) (by decide)
    obtain ⟨v9, σ9, e9, h⟩ := am_bd_some h
    have f9 : FR [(0, 6), (0, 8)] [8, 9, 11, 12] σ σ9 := fr_tr f5 (fr_up (f_Mo_leb e9) (fun _ h9 => h9) (by decide))
    by_cases c13 : (σ9.1.1 0 8) = 0
    · rw [if_pos c13] at h
      by_cases c17 : (lg_cmp v5 0) = 0
      · rw [if_pos c17] at h
        by_cases c21 : (lg_cmp v9 0) = 0
        · rw [if_pos c21] at h
          exact fr_tr f9 (f_Mo_readAttributes_50 (fun h => ih h) h)
        · rw [if_neg c21] at h
          exact fr_tr f9 (f_Mo_readAttributes_46 (fun h => ih h) h)
      · rw [if_neg c17] at h
        exact fr_tr f9 (f_Mo_readAttributes_46 (fun h => ih h) h)
    · rw [if_neg c13] at h
      exact fr_tr f9 (f_Mo_readAttributes_50 (fun h => ih h) h)
set_option maxHeartbeats 4000000 in
theorem f_Mo_readAttributes_0 {x1 : Int32} {σ σ' : am_S} {r : Int32} (h : g_Mo_readAttributes x1 σ = some (r, σ')) : FR [(0, 6), (0, 8)] [8, 9, 11, 12] σ σ' := by
  unfold g_Mo_readAttributes at h
  obtain ⟨_, h⟩ := gd_some h
  exact fr_tr (fr_ai fr_rf (List.mem_of_getElem? (i := 2) rfl)) (f_Mo_readAttributes_9 4000 h)
theorem f_Mo_readAttributes {x1 : Int32} {σ σ' : am_S} {r : Int32} (h : g_Mo_readAttributes x1 σ = some (r, σ')) : FR [(0, 6), (0, 8)] [8, 9, 11, 12] σ σ' := f_Mo_readAttributes_0 h
set_option maxHeartbeats 4000000 in
theorem f_Mo_abbreviation_2 : ∀ (n : Nat) {x1 : Int64} {x3 : Int32} {σ σ' : am_S} {r : Int32} (h : g_Mo_abbreviation_2 n x1 x3 σ = some (r, σ')), FR [] [] σ σ' := by
  intro n
  induction n with
  | zero =>
    intro x1 x3 σ σ' r h
    cases h
  | succ n ih =>
  intro x1 x3 σ σ' r h
  unfold g_Mo_abbreviation_2 at h
  by_cases c4 : x3 < (σ.1.1 0 13)
  · rw [if_pos c4] at h
    obtain ⟨_, h⟩ := gd_some h
    by_cases c11 : (lg_cmp (σ.2.2 6 x3.toNatClampNeg) x1) = 0
    · rw [if_pos c11] at h
      exact fr_lf fr_rf h
    · rw [if_neg c11] at h
      exact ih h
  · rw [if_neg c4] at h
    exact fr_lf fr_rf h
set_option maxHeartbeats 4000000 in
theorem f_Mo_abbreviation_0 {x1 : Int64} {σ σ' : am_S} {r : Int32} (h : g_Mo_abbreviation x1 σ = some (r, σ')) : FR [] [] σ σ' := by
  unfold g_Mo_abbreviation at h
  exact f_Mo_abbreviation_2 4000 h
theorem f_Mo_abbreviation {x1 : Int64} {σ σ' : am_S} {r : Int32} (h : g_Mo_abbreviation x1 σ = some (r, σ')) : FR [] [] σ σ' := f_Mo_abbreviation_0 h
set_option maxHeartbeats 4000000 in
theorem f_Mo_readAbbreviations_186 {x3 : Int32} {x4 : Int32} {σ σ' : am_S} {r : Int32} {go : Int32 → Int32 → am_S → Option (Int32 × am_S)} (hgo : ∀ {x3 : Int32} {x4 : Int32} {σ σ' : am_S} {r : Int32}, go x3 x4 σ = some (r, σ') → FR [(0, 13), (0, 6), (0, 7), (0, 8)] [6, 7, 8, 9, 10, 11, 12] σ σ') (h : g_Mo_readAbbreviations_186 go x3 x4 σ = some (r, σ')) : FR [(0, 13), (0, 6), (0, 7), (0, 8)] [6, 7, 8, 9, 10, 11, 12] σ σ' := by
  unfold g_Mo_readAbbreviations_186 at h
  exact hgo h
set_option maxHeartbeats 4000000 in
theorem f_Mo_readAbbreviations_175 {x4 : Int32} {y0 : Int32} {σ σ' : am_S} {r : Int32} {go : Int32 → Int32 → am_S → Option (Int32 × am_S)} (hgo : ∀ {x3 : Int32} {x4 : Int32} {σ σ' : am_S} {r : Int32}, go x3 x4 σ = some (r, σ') → FR [(0, 13), (0, 6), (0, 7), (0, 8)] [6, 7, 8, 9, 10, 11, 12] σ σ') (h : g_Mo_readAbbreviations_175 go x4 y0 σ = some (r, σ')) : FR [(0, 13), (0, 6), (0, 7), (0, 8)] [6, 7, 8, 9, 10, 11, 12] σ σ' := by
  unfold g_Mo_readAbbreviations_175 at h
  exact fr_tr (fr_fi fr_rf (List.mem_of_getElem? (i := 0) rfl)) (f_Mo_readAbbreviations_186 hgo h)
set_option maxHeartbeats 4000000 in
theorem f_Mo_readAbbreviations_174 {x4 : Int32} {σ σ' : am_S} {r : Int32} {go : Int32 → Int32 → am_S → Option (Int32 × am_S)} (hgo : ∀ {x3 : Int32} {x4 : Int32} {σ σ' : am_S} {r : Int32}, go x3 x4 σ = some (r, σ') → FR [(0, 13), (0, 6), (0, 7), (0, 8)] [6, 7, 8, 9, 10, 11, 12] σ σ') (h : g_Mo_readAbbreviations_174 go x4 σ = some (r, σ')) : FR [(0, 13), (0, 6), (0, 7), (0, 8)] [6, 7, 8, 9, 10, 11, 12] σ σ' := by
  unfold g_Mo_readAbbreviations_174 at h
  exact f_Mo_readAbbreviations_175 hgo h
set_option maxHeartbeats 4000000 in
theorem f_Mo_readAbbreviations_151 {x4 : Int32} {x7 : Int32} {x8 : Int64} {y0 : Int32} {y1 : Int32} {σ σ' : am_S} {r : Int32} {go : Int32 → Int32 → am_S → Option (Int32 × am_S)} (hgo : ∀ {x3 : Int32} {x4 : Int32} {σ σ' : am_S} {r : Int32}, go x3 x4 σ = some (r, σ') → FR [(0, 13), (0, 6), (0, 7), (0, 8)] [6, 7, 8, 9, 10, 11, 12] σ σ') (h : g_Mo_readAbbreviations_151 go x4 x7 x8 y0 y1 σ = some (r, σ')) : FR [(0, 13), (0, 6), (0, 7), (0, 8)] [6, 7, 8, 9, 10, 11, 12] σ σ' := by
  unfold g_Mo_readAbbreviations_151 at h
  obtain ⟨_, h⟩ := gd_some h
  by_cases c5 : (lg_cmp x8 2) < 0
  · rw [if_pos c5] at h
    obtain ⟨v8, σ8, e8, h⟩ := am_bd_some h
    have f8 : FR [(0, 13), (0, 6), (0, 7), (0, 8)] [6, 7, 8, 9, 10, 11, 12] σ σ8 := fr_tr (fr_ai fr_rf (List.mem_of_getElem? (i := 4) rfl)) (fr_up (f_Mo_readAttributes e8) (by decide) (by decide))
    by_cases c9 : v8 = 0
    · rw [if_pos c9] at h
      exact fr_tr f8 (f_Mo_readAbbreviations_174 hgo h)
    · rw [if_neg c9] at h
      exact fr_tr f8 (f_Mo_readAbbreviations_175 hgo h)
  · rw [if_neg c5] at h
    exact fr_tr (fr_ai fr_rf (List.mem_of_getElem? (i := 4) rfl)) (f_Mo_readAbbreviations_174 hgo h)
set_option maxHeartbeats 4000000 in
theorem f_Mo_readAbbreviations_89 {x4 : Int32} {x5 : Int64} {y0 : Int32} {σ σ' : am_S} {r : Int32} {go : Int32 → Int32 → am_S → Option (Int32 × am_S)} (hgo : ∀ {x3 : Int32} {x4 : Int32} {σ σ' : am_S} {r : Int32}, go x3 x4 σ = some (r, σ') → FR [(0, 13), (0, 6), (0, 7), (0, 8)] [6, 7, 8, 9, 10, 11, 12] σ σ') (h : g_Mo_readAbbreviations_89 go x4 x5 y0 σ = some (r, σ')) : FR [(0, 13), (0, 6), (0, 7), (0, 8)] [6, 7, 8, 9, 10, 11, 12] σ σ' := by
  unfold g_Mo_readAbbreviations_89 at h
  by_cases c3 : x4 = 0
  · rw [if_pos c3] at h
    exact f_Mo_readAbbreviations_186 hgo h
  · rw [if_neg c3] at h
    by_cases c5 : y0 = 0
    · rw [if_pos c5] at h
      exact f_Mo_readAbbreviations_186 hgo h
    · rw [if_neg c5] at h
      obtain ⟨_, h⟩ := gd_some h
      obtain ⟨v19, σ19, e19, h⟩ := am_bd_some h
      have f19 : FR [(0, 13), (0, 6), (0, 7), (0, 8)] [6, 7, 8, 9, 10, 11, 12] σ σ19 := fr_tr (fr_al fr_rf (List.mem_of_getElem? (i := 0) rfl)) (fr_up (f_Mo_leb e19) (by decide) (by decide))
      obtain ⟨_, h⟩ := gd_some h
      obtain ⟨v23, σ23, e23, h⟩ := am_bd_some h
      have f23 : FR [(0, 13), (0, 6), (0, 7), (0, 8)] [6, 7, 8, 9, 10, 11, 12] σ σ23 := fr_tr (fr_al f19 (List.mem_of_getElem? (i := 1) rfl)) (fr_up (f_Mo_u e23) (by decide) (by decide))
      by_cases c31 : (lg_cmp v23 1) = 0
      · rw [if_pos c31] at h
        exact fr_tr f23 (f_Mo_readAbbreviations_151 hgo h)
      · rw [if_neg c31] at h
        exact fr_tr f23 (f_Mo_readAbbreviations_151 hgo h)
set_option maxHeartbeats 4000000 in
theorem f_Mo_readAbbreviations_84 {x4 : Int32} {x5 : Int64} {σ σ' : am_S} {r : Int32} {go : Int32 → Int32 → am_S → Option (Int32 × am_S)} (hgo : ∀ {x3 : Int32} {x4 : Int32} {σ σ' : am_S} {r : Int32}, go x3 x4 σ = some (r, σ') → FR [(0, 13), (0, 6), (0, 7), (0, 8)] [6, 7, 8, 9, 10, 11, 12] σ σ') (h : g_Mo_readAbbreviations_84 go x4 x5 σ = some (r, σ')) : FR [(0, 13), (0, 6), (0, 7), (0, 8)] [6, 7, 8, 9, 10, 11, 12] σ σ' := by
  unfold g_Mo_readAbbreviations_84 at h
  exact f_Mo_readAbbreviations_89 hgo h
set_option maxHeartbeats 4000000 in
theorem f_Mo_readAbbreviations_88 {x4 : Int32} {x5 : Int64} {σ σ' : am_S} {r : Int32} {go : Int32 → Int32 → am_S → Option (Int32 × am_S)} (hgo : ∀ {x3 : Int32} {x4 : Int32} {σ σ' : am_S} {r : Int32}, go x3 x4 σ = some (r, σ') → FR [(0, 13), (0, 6), (0, 7), (0, 8)] [6, 7, 8, 9, 10, 11, 12] σ σ') (h : g_Mo_readAbbreviations_88 go x4 x5 σ = some (r, σ')) : FR [(0, 13), (0, 6), (0, 7), (0, 8)] [6, 7, 8, 9, 10, 11, 12] σ σ' := by
  unfold g_Mo_readAbbreviations_88 at h
  exact f_Mo_readAbbreviations_89 hgo h
set_option maxHeartbeats 4000000 in
theorem f_Mo_readAbbreviations_51 {x5 : Int64} {y0 : Int32} {σ σ' : am_S} {r : Int32} {go : Int32 → Int32 → am_S → Option (Int32 × am_S)} (hgo : ∀ {x3 : Int32} {x4 : Int32} {σ σ' : am_S} {r : Int32}, go x3 x4 σ = some (r, σ') → FR [(0, 13), (0, 6), (0, 7), (0, 8)] [6, 7, 8, 9, 10, 11, 12] σ σ') (h : g_Mo_readAbbreviations_51 go x5 y0 σ = some (r, σ')) : FR [(0, 13), (0, 6), (0, 7), (0, 8)] [6, 7, 8, 9, 10, 11, 12] σ σ' := by
  unfold g_Mo_readAbbreviations_51 at h
  by_cases c4 : (σ.1.1 0 8) = 0
  · rw [if_pos c4] at h
    by_cases c6 : y0 = 0
    · rw [if_pos c6] at h
      exact f_Mo_readAbbreviations_84 hgo h
    · rw [if_neg c6] at h
      by_cases c10 : (σ.1.1 0 13) < 40
      · rw [if_pos c10] at h
        obtain ⟨v13, σ13, e13, h⟩ := am_bd_some h
        have f13 : FR [(0, 13), (0, 6), (0, 7), (0, 8)] [6, 7, 8, 9, 10, 11, 12] σ σ13 := fr_up (f_Mo_abbreviation e13) (fun _ h9 => (by cases h9)) (fun _ h9 => (by cases h9))
        by_cases c15 : v13 = (-1)
        · rw [if_pos c15] at h
          exact fr_tr f13 (f_Mo_readAbbreviations_84 hgo h)
        · rw [if_neg c15] at h
          exact fr_tr f13 (f_Mo_readAbbreviations_88 hgo h)
      · rw [if_neg c10] at h
        exact f_Mo_readAbbreviations_88 hgo h
  · rw [if_neg c4] at h
    exact f_Mo_readAbbreviations_88 hgo h
set_option maxHeartbeats 4000000 in
theorem f_Mo_readAbbreviations_50 {x5 : Int64} {σ σ' : am_S} {r : Int32} {go : Int32 → Int32 → am_S → Option (Int32 × am_S)} (hgo : ∀ {x3 : Int32} {x4 : Int32} {σ σ' : am_S} {r : Int32}, go x3 x4 σ = some (r, σ') → FR [(0, 13), (0, 6), (0, 7), (0, 8)] [6, 7, 8, 9, 10, 11, 12] σ σ') (h : g_Mo_readAbbreviations_50 go x5 σ = some (r, σ')) : FR [(0, 13), (0, 6), (0, 7), (0, 8)] [6, 7, 8, 9, 10, 11, 12] σ σ' := by
  unfold g_Mo_readAbbreviations_50 at h
  exact f_Mo_readAbbreviations_51 hgo h
set_option maxHeartbeats 4000000 in
theorem f_Mo_readAbbreviations_189 {x3 : Int32} {σ σ' : am_S} {r : Int32} (h : g_Mo_readAbbreviations_189 x3 σ = some (r, σ')) : FR [(0, 13), (0, 6), (0, 7), (0, 8)] [6, 7, 8, 9, 10, 11, 12] σ σ' := by
  unfold g_Mo_readAbbreviations_189 at h
  obtain ⟨_, h⟩ := gd_some h
  exact fr_lf fr_rf h
set_option maxHeartbeats 4000000 in
theorem f_Mo_readAbbreviations_16 : ∀ (n : Nat) {x3 : Int32} {x4 : Int32} {σ σ' : am_S} {r : Int32} (h : g_Mo_readAbbreviations_16 n x3 x4 σ = some (r, σ')), FR [(0, 13), (0, 6), (0, 7), (0, 8)] [6, 7, 8, 9, 10, 11, 12] σ σ' := by
  intro n
  induction n with
  | zero =>
    intro x3 x4 σ σ' r h
    cases h
  | succ n ih =>
  intro x3 x4 σ σ' r h
  unfold g_Mo_readAbbreviations_16 at h
  by_cases c2 : x4 = 0
  · rw [if_pos c2] at h
    exact f_Mo_readAbbreviations_189 h
  · rw [if_neg c2] at h
    by_cases c4 : x3 = 0
    · rw [if_pos c4] at h
      exact f_Mo_readAbbreviations_189 h
    · rw [if_neg c4] at h
      obtain ⟨v7, σ7, e7, h⟩ := am_bd_some h
      have f7 : FR [(0, 13), (0, 6), (0, 7), (0, 8)] [6, 7, 8, 9, 10, 11, 12] σ σ7 := fr_up (f_Mo_leb e7) (by decide) (by decide)
      by_cases c11 : (σ7.1.1 0 8) = 0
      · rw [if_pos c11] at h
        by_cases c15 : (lg_cmp v7 0) = 0
        · rw [if_pos c15] at h
          exact fr_tr f7 (f_Mo_readAbbreviations_50 (fun h => ih h) h)
        · rw [if_neg c15] at h
          exact fr_tr f7 (f_Mo_readAbbreviations_51 (fun h => ih h) h)
      · rw [if_neg c11] at h
        exact fr_tr f7 (f_Mo_readAbbreviations_50 (fun h => ih h) h)
set_option maxHeartbeats 4000000 in
theorem f_Mo_readAbbreviations_0 {x1 : Int64} {σ σ' : am_S} {r : Int32} (h : g_Mo_readAbbreviations x1 σ = some (r, σ')) : FR [(0, 13), (0, 6), (0, 7), (0, 8)] [6, 7, 8, 9, 10, 11, 12] σ σ' := by
  unfold g_Mo_readAbbreviations at h
  obtain ⟨v4, σ4, e4, h⟩ := am_bd_some h
  have f4 : FR [(0, 13), (0, 6), (0, 7), (0, 8)] [6, 7, 8, 9, 10, 11, 12] σ σ4 := fr_up (f_Mo_enter e4) (by decide) (by decide)
  exact fr_tr (fr_fi f4 (List.mem_of_getElem? (i := 0) rfl)) (f_Mo_readAbbreviations_16 4000 h)
theorem f_Mo_readAbbreviations {x1 : Int64} {σ σ' : am_S} {r : Int32} (h : g_Mo_readAbbreviations x1 σ = some (r, σ')) : FR [(0, 13), (0, 6), (0, 7), (0, 8)] [6, 7, 8, 9, 10, 11, 12] σ σ' := f_Mo_readAbbreviations_0 h
set_option maxHeartbeats 4000000 in
theorem f_Mo_known_19 {y0 : Int64} {σ σ' : am_S} {r : Int32} (h : g_Mo_known_19 y0 σ = some (r, σ')) : FR [] [] σ σ' := by
  unfold g_Mo_known_19 at h
  by_cases d2_0 : y0.toInt32 = 3
  · rw [if_pos d2_0] at h
    exact fr_lf fr_rf h
  rw [if_neg d2_0] at h
  by_cases d2_1 : y0.toInt32 = 16
  · rw [if_pos d2_1] at h
    exact fr_lf fr_rf h
  rw [if_neg d2_1] at h
  by_cases d2_2 : y0.toInt32 = 17
  · rw [if_pos d2_2] at h
    exact fr_lf fr_rf h
  rw [if_neg d2_2] at h
  by_cases d2_3 : y0.toInt32 = 18
  · rw [if_pos d2_3] at h
    exact fr_lf fr_rf h
  rw [if_neg d2_3] at h
  by_cases d2_4 : y0.toInt32 = 49
  · rw [if_pos d2_4] at h
    exact fr_lf fr_rf h
  rw [if_neg d2_4] at h
  by_cases d2_5 : y0.toInt32 = 85
  · rw [if_pos d2_5] at h
    exact fr_lf fr_rf h
  rw [if_neg d2_5] at h
  by_cases d2_6 : y0.toInt32 = 88
  · rw [if_pos d2_6] at h
    exact fr_lf fr_rf h
  rw [if_neg d2_6] at h
  by_cases d2_7 : y0.toInt32 = 89
  · rw [if_pos d2_7] at h
    exact fr_lf fr_rf h
  rw [if_neg d2_7] at h
  by_cases d2_8 : y0.toInt32 = 114
  · rw [if_pos d2_8] at h
    exact fr_lf fr_rf h
  rw [if_neg d2_8] at h
  by_cases d2_9 : y0.toInt32 = 115
  · rw [if_pos d2_9] at h
    exact fr_lf fr_rf h
  rw [if_neg d2_9] at h
  by_cases d2_10 : y0.toInt32 = 116
  · rw [if_pos d2_10] at h
    exact fr_lf fr_rf h
  rw [if_neg d2_10] at h
  exact fr_lf fr_rf h
set_option maxHeartbeats 4000000 in
theorem f_Mo_known_14 {σ σ' : am_S} {r : Int32} (h : g_Mo_known_14 σ = some (r, σ')) : FR [] [] σ σ' := by
  unfold g_Mo_known_14 at h
  exact f_Mo_known_19 h
set_option maxHeartbeats 4000000 in
theorem f_Mo_known_0 {x0 : Int64} {σ σ' : am_S} {r : Int32} (h : g_Mo_known x0 σ = some (r, σ')) : FR [] [] σ σ' := by
  unfold g_Mo_known at h
  by_cases c4 : (lg_cmp x0 0) < 0
  · rw [if_pos c4] at h
    exact f_Mo_known_14 h
  · rw [if_neg c4] at h
    by_cases c8 : 0 < (lg_cmp x0 255)
    · rw [if_pos c8] at h
      exact f_Mo_known_14 h
    · rw [if_neg c8] at h
      exact f_Mo_known_19 h
theorem f_Mo_known {x0 : Int64} {σ σ' : am_S} {r : Int32} (h : g_Mo_known x0 σ = some (r, σ')) : FR [] [] σ σ' := f_Mo_known_0 h
set_option maxHeartbeats 4000000 in
theorem f_Mo_readValue_164 {σ σ' : am_S} {r : Int64} (h : g_Mo_readValue_164 σ = some (r, σ')) : FR [(0, 6), (0, 8)] [] σ σ' := by
  unfold g_Mo_readValue_164 at h
  obtain ⟨v3, σ3, e3, h⟩ := am_bd_some h
  have f3 : FR [(0, 6), (0, 8)] [] σ σ3 := f_Mo_u e3
  exact fr_lf f3 h
set_option maxHeartbeats 4000000 in
theorem f_Mo_readValue_171 {σ σ' : am_S} {r : Int64} (h : g_Mo_readValue_171 σ = some (r, σ')) : FR [(0, 6), (0, 8)] [] σ σ' := by
  unfold g_Mo_readValue_171 at h
  obtain ⟨v3, σ3, e3, h⟩ := am_bd_some h
  have f3 : FR [(0, 6), (0, 8)] [] σ σ3 := f_Mo_u e3
  exact fr_lf f3 h
set_option maxHeartbeats 4000000 in
theorem f_Mo_readValue_183 {σ σ' : am_S} {r : Int64} (h : g_Mo_readValue_183 σ = some (r, σ')) : FR [(0, 6), (0, 8)] [] σ σ' := by
  unfold g_Mo_readValue_183 at h
  obtain ⟨v3, σ3, e3, h⟩ := am_bd_some h
  have f3 : FR [(0, 6), (0, 8)] [] σ σ3 := f_Mo_u e3
  exact fr_lf f3 h
set_option maxHeartbeats 4000000 in
theorem f_Mo_readValue_195 {σ σ' : am_S} {r : Int64} (h : g_Mo_readValue_195 σ = some (r, σ')) : FR [(0, 6), (0, 8)] [] σ σ' := by
  unfold g_Mo_readValue_195 at h
  obtain ⟨v3, σ3, e3, h⟩ := am_bd_some h
  have f3 : FR [(0, 6), (0, 8)] [] σ σ3 := f_Mo_leb e3
  exact fr_lf f3 h
set_option maxHeartbeats 4000000 in
theorem f_Mo_readValue_211 {σ σ' : am_S} {r : Int64} (h : g_Mo_readValue_211 σ = some (r, σ')) : FR [(0, 6), (0, 8)] [] σ σ' := by
  unfold g_Mo_readValue_211 at h
  obtain ⟨v4, σ4, e4, h⟩ := am_bd_some h
  have f4 : FR [(0, 6), (0, 8)] [] σ σ4 := f_Mo_leb e4
  obtain ⟨v5, σ5, e5, h⟩ := am_bd_some h
  have f5 : FR [(0, 6), (0, 8)] [] σ σ5 := fr_tr f4 (f_Mo_pass e5)
  exact fr_lf f5 h
set_option maxHeartbeats 4000000 in
theorem f_Mo_readValue_0 {x1 : Int32} {x2 : Int64} {σ σ' : am_S} {r : Int64} (h : g_Mo_readValue x1 x2 σ = some (r, σ')) : FR [(0, 6), (0, 8)] [] σ σ' := by
  unfold g_Mo_readValue at h
  by_cases d2_0 : x1 = 1
  · rw [if_pos d2_0] at h
    exact f_Mo_readValue_164 h
  rw [if_neg d2_0] at h
  by_cases d2_1 : x1 = 5
  · rw [if_pos d2_1] at h
    obtain ⟨v5, σ5, e5, h⟩ := am_bd_some h
    have f5 : FR [(0, 6), (0, 8)] [] σ σ5 := f_Mo_u e5
    exact fr_lf f5 h
  rw [if_neg d2_1] at h
  by_cases d2_2 : x1 = 6
  · rw [if_pos d2_2] at h
    exact f_Mo_readValue_183 h
  rw [if_neg d2_2] at h
  by_cases d2_3 : x1 = 7
  · rw [if_pos d2_3] at h
    exact f_Mo_readValue_164 h
  rw [if_neg d2_3] at h
  by_cases d2_4 : x1 = 8
  · rw [if_pos d2_4] at h
    obtain ⟨v4, σ4, e4, h⟩ := am_bd_some h
    have f4 : FR [(0, 6), (0, 8)] [] σ σ4 := f_Mo_text e4
    exact fr_lf f4 h
  rw [if_neg d2_4] at h
  by_cases d2_5 : x1 = 11
  · rw [if_pos d2_5] at h
    exact f_Mo_readValue_171 h
  rw [if_neg d2_5] at h
  by_cases d2_6 : x1 = 13
  · rw [if_pos d2_6] at h
    obtain ⟨v5, σ5, e5, h⟩ := am_bd_some h
    have f5 : FR [(0, 6), (0, 8)] [] σ σ5 := f_Mo_leb e5
    exact fr_lf f5 h
  rw [if_neg d2_6] at h
  by_cases d2_7 : x1 = 14
  · rw [if_pos d2_7] at h
    exact f_Mo_readValue_183 h
  rw [if_neg d2_7] at h
  by_cases d2_8 : x1 = 15
  · rw [if_pos d2_8] at h
    exact f_Mo_readValue_195 h
  rw [if_neg d2_8] at h
  by_cases d2_9 : x1 = 19
  · rw [if_pos d2_9] at h
    exact f_Mo_readValue_183 h
  rw [if_neg d2_9] at h
  by_cases d2_10 : x1 = 23
  · rw [if_pos d2_10] at h
    exact f_Mo_readValue_183 h
  rw [if_neg d2_10] at h
  by_cases d2_11 : x1 = 25
  · rw [if_pos d2_11] at h
    exact fr_lf fr_rf h
  rw [if_neg d2_11] at h
  by_cases d2_12 : x1 = 27
  · rw [if_pos d2_12] at h
    exact f_Mo_readValue_195 h
  rw [if_neg d2_12] at h
  by_cases d2_13 : x1 = 31
  · rw [if_pos d2_13] at h
    exact f_Mo_readValue_183 h
  rw [if_neg d2_13] at h
  by_cases d2_14 : x1 = 33
  · rw [if_pos d2_14] at h
    exact fr_lf fr_rf h
  rw [if_neg d2_14] at h
  by_cases d2_15 : x1 = 35
  · rw [if_pos d2_15] at h
    exact f_Mo_readValue_195 h
  rw [if_neg d2_15] at h
  by_cases d2_16 : x1 = 37
  · rw [if_pos d2_16] at h
    exact f_Mo_readValue_171 h
  rw [if_neg d2_16] at h
  exact f_Mo_readValue_211 h
theorem f_Mo_readValue {x1 : Int32} {x2 : Int64} {σ σ' : am_S} {r : Int64} (h : g_Mo_readValue x1 x2 σ = some (r, σ')) : FR [(0, 6), (0, 8)] [] σ σ' := f_Mo_readValue_0 h
set_option maxHeartbeats 4000000 in
theorem f_Mo_readEntry_229 {x2 : Int32} {x3 : Int32} {x4 : Int32} {σ σ' : am_S} {r : Unit} {go : Int32 → Int32 → Int32 → am_S → Option (Unit × am_S)} (hgo : ∀ {x2 : Int32} {x3 : Int32} {x4 : Int32} {σ σ' : am_S} {r : Unit}, go x2 x3 x4 σ = some (r, σ') → FR [(0, 22), (0, 6), (0, 8)] [16, 17, 18, 19, 20, 21] σ σ') (h : g_Mo_readEntry_229 go x2 x3 x4 σ = some (r, σ')) : FR [(0, 22), (0, 6), (0, 8)] [16, 17, 18, 19, 20, 21] σ σ' := by
  unfold g_Mo_readEntry_229 at h
  exact hgo h
set_option maxHeartbeats 4000000 in
theorem f_Mo_readEntry_235 {σ σ' : am_S} {r : Unit} (h : g_Mo_readEntry_235 σ = some (r, σ')) : FR [(0, 22), (0, 6), (0, 8)] [16, 17, 18, 19, 20, 21] σ σ' := by
  unfold g_Mo_readEntry_235 at h
  exact fr_lf (fr_fi fr_rf (List.mem_of_getElem? (i := 0) rfl)) h
set_option maxHeartbeats 4000000 in
theorem f_Mo_readEntry_120 : ∀ (n : Nat) {x2 : Int32} {x3 : Int32} {x4 : Int32} {σ σ' : am_S} {r : Unit} (h : g_Mo_readEntry_120 n x2 x3 x4 σ = some (r, σ')), FR [(0, 22), (0, 6), (0, 8)] [16, 17, 18, 19, 20, 21] σ σ' := by
  intro n
  induction n with
  | zero =>
    intro x2 x3 x4 σ σ' r h
    cases h
  | succ n ih =>
  intro x2 x3 x4 σ σ' r h
  unfold g_Mo_readEntry_120 at h
  obtain ⟨_, h⟩ := gd_some h
  by_cases c10 : x4 < ((12 * x2) + (σ.2.1 11 x2.toNatClampNeg))
  · rw [if_pos c10] at h
    by_cases c13 : (σ.1.1 0 8) = 0
    · rw [if_pos c13] at h
      obtain ⟨_, h⟩ := gd_some h
      obtain ⟨_, h⟩ := gd_some h
      obtain ⟨v23, σ23, e23, h⟩ := am_bd_some h
      have f23 : FR [(0, 22), (0, 6), (0, 8)] [16, 17, 18, 19, 20, 21] σ σ23 := fr_up (f_Mo_readValue e23) (by decide) (by decide)
      obtain ⟨_, h⟩ := gd_some h
      obtain ⟨v29, σ29, e29, h⟩ := am_bd_some h
      have f29 : FR [(0, 22), (0, 6), (0, 8)] [16, 17, 18, 19, 20, 21] σ σ29 := fr_tr f23 (fr_up (f_Mo_known e29) (fun _ h9 => (by cases h9)) (fun _ h9 => (by cases h9)))
      by_cases c33 : v29 = (-1)
      · rw [if_pos c33] at h
        exact fr_tr f29 (f_Mo_readEntry_229 (fun h => ih h) h)
      · rw [if_neg c33] at h
        obtain ⟨_, h⟩ := gd_some h
        by_cases c42 : (σ29.2.1 20 ((11 * x3) + v29).toNatClampNeg) = 0
        · rw [if_pos c42] at h
          obtain ⟨_, h⟩ := gd_some h
          obtain ⟨_, h⟩ := gd_some h
          obtain ⟨_, h⟩ := gd_some h
          exact fr_tr (fr_al (fr_ai f29 (List.mem_of_getElem? (i := 4) rfl)) (List.mem_of_getElem? (i := 5) rfl)) (f_Mo_readEntry_229 (fun h => ih h) h)
        · rw [if_neg c42] at h
          exact fr_tr f29 (f_Mo_readEntry_229 (fun h => ih h) h)
    · rw [if_neg c13] at h
      exact f_Mo_readEntry_235 h
  · rw [if_neg c10] at h
    exact f_Mo_readEntry_235 h
set_option maxHeartbeats 4000000 in
theorem f_Mo_readEntry_88 : ∀ (n : Nat) {x2 : Int32} {x3 : Int32} {x4 : Int32} {σ σ' : am_S} {r : Unit} (h : g_Mo_readEntry_88 n x2 x3 x4 σ = some (r, σ')), FR [(0, 22), (0, 6), (0, 8)] [16, 17, 18, 19, 20, 21] σ σ' := by
  intro n
  induction n with
  | zero =>
    intro x2 x3 x4 σ σ' r h
    cases h
  | succ n ih =>
  intro x2 x3 x4 σ σ' r h
  unfold g_Mo_readEntry_88 at h
  by_cases c3 : x4 < 11
  · rw [if_pos c3] at h
    obtain ⟨_, h⟩ := gd_some h
    exact fr_tr (fr_ai fr_rf (List.mem_of_getElem? (i := 4) rfl)) (ih h)
  · rw [if_neg c3] at h
    exact f_Mo_readEntry_120 4000 h
set_option maxHeartbeats 4000000 in
theorem f_Mo_readEntry_72 {x2 : Int32} {x3 : Int32} {y0 : Int32} {y1 : Int32} {σ σ' : am_S} {r : Unit} (h : g_Mo_readEntry_72 x2 x3 y0 y1 σ = some (r, σ')) : FR [(0, 22), (0, 6), (0, 8)] [16, 17, 18, 19, 20, 21] σ σ' := by
  unfold g_Mo_readEntry_72 at h
  obtain ⟨_, h⟩ := gd_some h
  obtain ⟨_, h⟩ := gd_some h
  exact fr_tr (fr_ai (fr_ai fr_rf (List.mem_of_getElem? (i := 2) rfl)) (List.mem_of_getElem? (i := 3) rfl)) (f_Mo_readEntry_88 4000 h)
set_option maxHeartbeats 4000000 in
theorem f_Mo_readEntry_43 {x2 : Int32} {x3 : Int32} {y0 : Int64} {y1 : Int32} {σ σ' : am_S} {r : Unit} (h : g_Mo_readEntry_43 x2 x3 y0 y1 σ = some (r, σ')) : FR [(0, 22), (0, 6), (0, 8)] [16, 17, 18, 19, 20, 21] σ σ' := by
  unfold g_Mo_readEntry_43 at h
  obtain ⟨_, h⟩ := gd_some h
  by_cases c8 : (σ.1.1 0 23) = 0
  · rw [if_pos c8] at h
    exact fr_tr (fr_ai fr_rf (List.mem_of_getElem? (i := 1) rfl)) (f_Mo_readEntry_72 h)
  · rw [if_neg c8] at h
    obtain ⟨_, h⟩ := gd_some h
    exact fr_tr (fr_ai fr_rf (List.mem_of_getElem? (i := 1) rfl)) (f_Mo_readEntry_72 h)
set_option maxHeartbeats 4000000 in
theorem f_Mo_readEntry_0 {x1 : Int32} {x2 : Int32} {σ σ' : am_S} {r : Unit} (h : g_Mo_readEntry x1 x2 σ = some (r, σ')) : FR [(0, 22), (0, 6), (0, 8)] [16, 17, 18, 19, 20, 21] σ σ' := by
  unfold g_Mo_readEntry at h
  obtain ⟨_, h⟩ := gd_some h
  obtain ⟨_, h⟩ := gd_some h
  obtain ⟨v18, σ18, e18, h⟩ := am_bd_some h
  have f18 : FR [(0, 22), (0, 6), (0, 8)] [16, 17, 18, 19, 20, 21] σ σ18 := fr_tr (fr_ai fr_rf (List.mem_of_getElem? (i := 0) rfl)) (fr_up (f_Mo_in e18) (fun _ h9 => (by cases h9)) (fun _ h9 => (by cases h9)))
  by_cases c19 : v18 = 0
  · rw [if_pos c19] at h
    exact fr_tr f18 (f_Mo_readEntry_43 h)
  · rw [if_neg c19] at h
    obtain ⟨_, h⟩ := gd_some h
    exact fr_tr f18 (f_Mo_readEntry_43 h)
theorem f_Mo_readEntry {x1 : Int32} {x2 : Int32} {σ σ' : am_S} {r : Unit} (h : g_Mo_readEntry x1 x2 σ = some (r, σ')) : FR [(0, 22), (0, 6), (0, 8)] [16, 17, 18, 19, 20, 21] σ σ' := f_Mo_readEntry_0 h
