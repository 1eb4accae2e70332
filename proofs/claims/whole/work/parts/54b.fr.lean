set_option maxHeartbeats 4000000 in
theorem f_F_forget_0 {σ σ' : am_S} {r : Unit} (h : g_F_forget σ = some (r, σ')) : FR [(0, 11), (58, 11)] [] σ σ' := by
  unfold g_F_forget at h
  exact fr_lf (fr_fi (fr_fi fr_rf (List.mem_of_getElem? (i := 0) rfl)) (List.mem_of_getElem? (i := 1) rfl)) h
theorem f_F_forget {σ σ' : am_S} {r : Unit} (h : g_F_forget σ = some (r, σ')) : FR [(0, 11), (58, 11)] [] σ σ' := f_F_forget_0 h
set_option maxHeartbeats 4000000 in
theorem f_F_load_23 {σ σ' : am_S} {r : Int32} (h : g_F_load_23 σ = some (r, σ')) : FR [(0, 10), (0, 11), (58, 11)] [1] σ σ' := by
  unfold g_F_load_23 at h
  exact fr_lf fr_rf h
set_option maxHeartbeats 4000000 in
theorem f_F_load_28 : ∀ (n : Nat) {x1 : Int32} {x2 : Int64} {x4 : Int32} {σ σ' : am_S} {r : Int32} (h : g_F_load_28 n x1 x2 x4 σ = some (r, σ')), FR [(0, 10), (0, 11), (58, 11)] [1] σ σ' := by
  intro n
  induction n with
  | zero =>
    intro x1 x2 x4 σ σ' r h
    cases h
  | succ n ih =>
  intro x1 x2 x4 σ σ' r h
  unfold g_F_load_28 at h
  by_cases c3 : x4 < x1
  · rw [if_pos c3] at h
    obtain ⟨_, h⟩ := gd_some h
    exact fr_tr (fr_ai fr_rf (List.mem_of_getElem? (i := 0) rfl)) (ih h)
  · rw [if_neg c3] at h
    obtain ⟨v11, σ11, e11, h⟩ := am_bd_some h
    have f11 : FR [(0, 10), (0, 11), (58, 11)] [1] σ σ11 := fr_tr (fr_fi fr_rf (List.mem_of_getElem? (i := 0) rfl)) (fr_up (f_F_forget e11) (by decide) (by decide))
    exact fr_lf f11 h
set_option maxHeartbeats 4000000 in
theorem f_F_load_0 {x1 : Int32} {x2 : Int64} {σ σ' : am_S} {r : Int32} (h : g_F_load x1 x2 σ = some (r, σ')) : FR [(0, 10), (0, 11), (58, 11)] [1] σ σ' := by
  unfold g_F_load at h
  by_cases c3 : x1 < 1
  · rw [if_pos c3] at h
    exact f_F_load_23 h
  · rw [if_neg c3] at h
    by_cases c6 : 8 < x1
    · rw [if_pos c6] at h
      exact f_F_load_23 h
    · rw [if_neg c6] at h
      by_cases c12 : (3000 - (σ.1.1 0 10)) < x1
      · rw [if_pos c12] at h
        exact f_F_load_23 h
      · rw [if_neg c12] at h
        exact f_F_load_28 4000 h
theorem f_F_load {x1 : Int32} {x2 : Int64} {σ σ' : am_S} {r : Int32} (h : g_F_load x1 x2 σ = some (r, σ')) : FR [(0, 10), (0, 11), (58, 11)] [1] σ σ' := f_F_load_0 h
set_option maxHeartbeats 4000000 in
theorem f_F_clear_0 {σ σ' : am_S} {r : Unit} (h : g_F_clear σ = some (r, σ')) : FR [(0, 10), (0, 11), (58, 11)] [] σ σ' := by
  unfold g_F_clear at h
  obtain ⟨v5, σ5, e5, h⟩ := am_bd_some h
  have f5 : FR [(0, 10), (0, 11), (58, 11)] [] σ σ5 := fr_tr (fr_fi fr_rf (List.mem_of_getElem? (i := 0) rfl)) (fr_up (f_F_forget e5) (by decide) (fun _ h9 => h9))
  exact fr_lf f5 h
theorem f_F_clear {σ σ' : am_S} {r : Unit} (h : g_F_clear σ = some (r, σ')) : FR [(0, 10), (0, 11), (58, 11)] [] σ σ' := f_F_clear_0 h
set_option maxHeartbeats 4000000 in
theorem f_F_fault_0 {σ σ' : am_S} {r : Int32} (h : g_F_fault σ = some (r, σ')) : FR [] [] σ σ' := by
  unfold g_F_fault at h
  exact fr_lf fr_rf h
theorem f_F_fault {σ σ' : am_S} {r : Int32} (h : g_F_fault σ = some (r, σ')) : FR [] [] σ σ' := f_F_fault_0 h
set_option maxHeartbeats 4000000 in
theorem f_F_count_0 {x1 : Int32} {σ σ' : am_S} {r : Int32} (h : g_F_count x1 σ = some (r, σ')) : FR [] [] σ σ' := by
  unfold g_F_count at h
  by_cases c3 : (σ.1.1 0 11) = 0
  · rw [if_pos c3] at h
    exact fr_lf fr_rf h
  · rw [if_neg c3] at h
    by_cases d5_0 : x1 = 0
    · rw [if_pos d5_0] at h
      exact fr_lf fr_rf h
    rw [if_neg d5_0] at h
    by_cases d5_1 : x1 = 1
    · rw [if_pos d5_1] at h
      exact fr_lf fr_rf h
    rw [if_neg d5_1] at h
    by_cases d5_2 : x1 = 2
    · rw [if_pos d5_2] at h
      exact fr_lf fr_rf h
    rw [if_neg d5_2] at h
    by_cases d5_3 : x1 = 3
    · rw [if_pos d5_3] at h
      exact fr_lf fr_rf h
    rw [if_neg d5_3] at h
    by_cases d5_4 : x1 = 4
    · rw [if_pos d5_4] at h
      exact fr_lf fr_rf h
    rw [if_neg d5_4] at h
    by_cases d5_5 : x1 = 5
    · rw [if_pos d5_5] at h
      exact fr_lf fr_rf h
    rw [if_neg d5_5] at h
    exact fr_lf fr_rf h
theorem f_F_count {x1 : Int32} {σ σ' : am_S} {r : Int32} (h : g_F_count x1 σ = some (r, σ')) : FR [] [] σ σ' := f_F_count_0 h
set_option maxHeartbeats 4000000 in
theorem f_Fr_has_17 {y0 : Int32} {σ σ' : am_S} {r : Int32} (h : g_Fr_has_17 y0 σ = some (r, σ')) : FR [] [] σ σ' := by
  unfold g_Fr_has_17 at h
  obtain ⟨_, h⟩ := gd_some h
  exact fr_lf fr_rf h
set_option maxHeartbeats 4000000 in
theorem f_Fr_has_16 {σ σ' : am_S} {r : Int32} (h : g_Fr_has_16 σ = some (r, σ')) : FR [] [] σ σ' := by
  unfold g_Fr_has_16 at h
  exact f_Fr_has_17 h
set_option maxHeartbeats 4000000 in
theorem f_Fr_has_0 {x1 : Int32} {σ σ' : am_S} {r : Int32} (h : g_Fr_has x1 σ = some (r, σ')) : FR [] [] σ σ' := by
  unfold g_Fr_has at h
  by_cases c2 : x1 < 0
  · rw [if_pos c2] at h
    exact f_Fr_has_16 h
  · rw [if_neg c2] at h
    by_cases c6 : x1 < (σ.1.1 58 11)
    · rw [if_pos c6] at h
      exact f_Fr_has_17 h
    · rw [if_neg c6] at h
      exact f_Fr_has_16 h
theorem f_Fr_has {x1 : Int32} {σ σ' : am_S} {r : Int32} (h : g_Fr_has x1 σ = some (r, σ')) : FR [] [] σ σ' := f_Fr_has_0 h
set_option maxHeartbeats 4000000 in
theorem f_F_character_27 {y0 : Int32} {σ σ' : am_S} {r : Int32} (h : g_F_character_27 y0 σ = some (r, σ')) : FR [] [] σ σ' := by
  unfold g_F_character_27 at h
  exact fr_lf fr_rf h
set_option maxHeartbeats 4000000 in
theorem f_F_character_11 {σ σ' : am_S} {r : Int32} (h : g_F_character_11 σ = some (r, σ')) : FR [] [] σ σ' := by
  unfold g_F_character_11 at h
  exact f_F_character_27 h
set_option maxHeartbeats 4000000 in
theorem f_F_character_0 {x1 : Int32} {x2 : Int32} {x3 : Int32} {σ σ' : am_S} {r : Int32} (h : g_F_character x1 x2 x3 σ = some (r, σ')) : FR [] [] σ σ' := by
  unfold g_F_character at h
  by_cases c2 : x3 < 0
  · rw [if_pos c2] at h
    exact f_F_character_11 h
  · rw [if_neg c2] at h
    by_cases c7 : x3 < (x2 - x1)
    · rw [if_pos c7] at h
      obtain ⟨_, h⟩ := gd_some h
      exact f_F_character_27 h
    · rw [if_neg c7] at h
      exact f_F_character_11 h
theorem f_F_character {x1 : Int32} {x2 : Int32} {x3 : Int32} {σ σ' : am_S} {r : Int32} (h : g_F_character x1 x2 x3 σ = some (r, σ')) : FR [] [] σ σ' := f_F_character_0 h
set_option maxHeartbeats 4000000 in
theorem f_F_name_38 {y0 : Int32} {σ σ' : am_S} {r : Int32} (h : g_F_name_38 y0 σ = some (r, σ')) : FR [] [] σ σ' := by
  unfold g_F_name_38 at h
  exact fr_lf fr_rf h
set_option maxHeartbeats 4000000 in
theorem f_F_name_0 {x1 : Int32} {x2 : Int32} {σ σ' : am_S} {r : Int32} (h : g_F_name x1 x2 σ = some (r, σ')) : FR [] [] σ σ' := by
  unfold g_F_name at h
  obtain ⟨v4, σ4, e4, h⟩ := am_bd_some h
  have f4 : FR [] [] σ σ4 := fr_up (f_Fr_has e4) (fun _ h9 => (by cases h9)) (fun _ h9 => (by cases h9))
  by_cases c5 : v4 = 0
  · rw [if_pos c5] at h
    exact fr_tr f4 (f_F_name_38 h)
  · rw [if_neg c5] at h
    obtain ⟨_, h⟩ := gd_some h
    obtain ⟨_, h⟩ := gd_some h
    obtain ⟨v18, σ18, e18, h⟩ := am_bd_some h
    have f18 : FR [] [] σ σ18 := fr_tr f4 (fr_up (f_F_character e18) (fun _ h9 => (by cases h9)) (fun _ h9 => (by cases h9)))
    exact fr_tr f18 (f_F_name_38 h)
theorem f_F_name {x1 : Int32} {x2 : Int32} {σ σ' : am_S} {r : Int32} (h : g_F_name x1 x2 σ = some (r, σ')) : FR [] [] σ σ' := f_F_name_0 h
set_option maxHeartbeats 4000000 in
theorem f_F_file_38 {y0 : Int32} {σ σ' : am_S} {r : Int32} (h : g_F_file_38 y0 σ = some (r, σ')) : FR [] [] σ σ' := by
  unfold g_F_file_38 at h
  exact fr_lf fr_rf h
set_option maxHeartbeats 4000000 in
theorem f_F_file_0 {x1 : Int32} {x2 : Int32} {σ σ' : am_S} {r : Int32} (h : g_F_file x1 x2 σ = some (r, σ')) : FR [] [] σ σ' := by
  unfold g_F_file at h
  obtain ⟨v4, σ4, e4, h⟩ := am_bd_some h
  have f4 : FR [] [] σ σ4 := fr_up (f_Fr_has e4) (fun _ h9 => (by cases h9)) (fun _ h9 => (by cases h9))
  by_cases c5 : v4 = 0
  · rw [if_pos c5] at h
    exact fr_tr f4 (f_F_file_38 h)
  · rw [if_neg c5] at h
    obtain ⟨_, h⟩ := gd_some h
    obtain ⟨_, h⟩ := gd_some h
    obtain ⟨v18, σ18, e18, h⟩ := am_bd_some h
    have f18 : FR [] [] σ σ18 := fr_tr f4 (fr_up (f_F_character e18) (fun _ h9 => (by cases h9)) (fun _ h9 => (by cases h9)))
    exact fr_tr f18 (f_F_file_38 h)
theorem f_F_file {x1 : Int32} {x2 : Int32} {σ σ' : am_S} {r : Int32} (h : g_F_file x1 x2 σ = some (r, σ')) : FR [] [] σ σ' := f_F_file_0 h
set_option maxHeartbeats 4000000 in
theorem f_F_line_24 {y0 : Int32} {σ σ' : am_S} {r : Int32} (h : g_F_line_24 y0 σ = some (r, σ')) : FR [] [] σ σ' := by
  unfold g_F_line_24 at h
  exact fr_lf fr_rf h
set_option maxHeartbeats 4000000 in
theorem f_F_line_0 {x1 : Int32} {σ σ' : am_S} {r : Int32} (h : g_F_line x1 σ = some (r, σ')) : FR [] [] σ σ' := by
  unfold g_F_line at h
  obtain ⟨v4, σ4, e4, h⟩ := am_bd_some h
  have f4 : FR [] [] σ σ4 := fr_up (f_Fr_has e4) (fun _ h9 => (by cases h9)) (fun _ h9 => (by cases h9))
  by_cases c5 : v4 = 0
  · rw [if_pos c5] at h
    exact fr_tr f4 (f_F_line_24 h)
  · rw [if_neg c5] at h
    obtain ⟨_, h⟩ := gd_some h
    exact fr_tr f4 (f_F_line_24 h)
theorem f_F_line {x1 : Int32} {σ σ' : am_S} {r : Int32} (h : g_F_line x1 σ = some (r, σ')) : FR [] [] σ σ' := f_F_line_0 h
set_option maxHeartbeats 4000000 in
theorem f_F_isBelow_19 {y0 : Int32} {σ σ' : am_S} {r : Int32} (h : g_F_isBelow_19 y0 σ = some (r, σ')) : FR [] [] σ σ' := by
  unfold g_F_isBelow_19 at h
  obtain ⟨_, h⟩ := gd_some h
  exact fr_lf fr_rf h
set_option maxHeartbeats 4000000 in
theorem f_F_isBelow_0 {x0 : Int64} {x2 : Int64} {σ σ' : am_S} {r : Int32} (h : g_F_isBelow x0 x2 σ = some (r, σ')) : FR [] [] σ σ' := by
  unfold g_F_isBelow at h
  by_cases c8 : (lg_cmp (x0 ^^^ (-9223372036854775808)) (x2 ^^^ (-9223372036854775808))) < 0
  · rw [if_pos c8] at h
    exact f_F_isBelow_19 h
  · rw [if_neg c8] at h
    exact f_F_isBelow_19 h
theorem f_F_isBelow {x0 : Int64} {x2 : Int64} {σ σ' : am_S} {r : Int32} (h : g_F_isBelow x0 x2 σ = some (r, σ')) : FR [] [] σ σ' := f_F_isBelow_0 h
set_option maxHeartbeats 4000000 in
theorem f_F_indexOf_66_2 : ∀ (n : Nat) {x1 : Int64} {x3 : Int32} {σ σ' : am_S} {r : Int32} (h : g_F_indexOf_66_2 n x1 x3 σ = some (r, σ')), FR [] [] σ σ' := by
  intro n
  induction n with
  | zero =>
    intro x1 x3 σ σ' r h
    cases h
  | succ n ih =>
  intro x1 x3 σ σ' r h
  unfold g_F_indexOf_66_2 at h
  by_cases c4 : x3 < (Int32.ofNat 7)
  · rw [if_pos c4] at h
    obtain ⟨_, h⟩ := gd_some h
    by_cases c11 : (lg_cmp ((am_cs S_c 66 x3.toNatClampNeg).toInt64) x1) = 0
    · rw [if_pos c11] at h
      exact fr_lf fr_rf h
    · rw [if_neg c11] at h
      exact ih h
  · rw [if_neg c4] at h
    exact fr_lf fr_rf h
set_option maxHeartbeats 4000000 in
theorem f_F_indexOf_66_0 {x1 : Int64} {σ σ' : am_S} {r : Int32} (h : g_F_indexOf_66 x1 σ = some (r, σ')) : FR [] [] σ σ' := by
  unfold g_F_indexOf_66 at h
  exact f_F_indexOf_66_2 4000 h
theorem f_F_indexOf_66 {x1 : Int64} {σ σ' : am_S} {r : Int32} (h : g_F_indexOf_66 x1 σ = some (r, σ')) : FR [] [] σ σ' := f_F_indexOf_66_0 h
set_option maxHeartbeats 4000000 in
theorem f_F_indexOf_67_2 : ∀ (n : Nat) {x1 : Int64} {x3 : Int32} {σ σ' : am_S} {r : Int32} (h : g_F_indexOf_67_2 n x1 x3 σ = some (r, σ')), FR [] [] σ σ' := by
  intro n
  induction n with
  | zero =>
    intro x1 x3 σ σ' r h
    cases h
  | succ n ih =>
  intro x1 x3 σ σ' r h
  unfold g_F_indexOf_67_2 at h
  by_cases c4 : x3 < (Int32.ofNat 4)
  · rw [if_pos c4] at h
    obtain ⟨_, h⟩ := gd_some h
    by_cases c11 : (lg_cmp ((am_cs S_c 67 x3.toNatClampNeg).toInt64) x1) = 0
    · rw [if_pos c11] at h
      exact fr_lf fr_rf h
    · rw [if_neg c11] at h
      exact ih h
  · rw [if_neg c4] at h
    exact fr_lf fr_rf h
set_option maxHeartbeats 4000000 in
theorem f_F_indexOf_67_0 {x1 : Int64} {σ σ' : am_S} {r : Int32} (h : g_F_indexOf_67 x1 σ = some (r, σ')) : FR [] [] σ σ' := by
  unfold g_F_indexOf_67 at h
  exact f_F_indexOf_67_2 4000 h
theorem f_F_indexOf_67 {x1 : Int64} {σ σ' : am_S} {r : Int32} (h : g_F_indexOf_67 x1 σ = some (r, σ')) : FR [] [] σ σ' := f_F_indexOf_67_0 h
set_option maxHeartbeats 4000000 in
theorem f_Se_point_76 {k : Nat} {y0 : Int32} {σ σ' : am_S} {r : Unit} (h : g_Se_point_76 k y0 σ = some (r, σ')) : FR [(k, 1), (k, 2), (k, 3)] [] σ σ' := by
  unfold g_Se_point_76 at h
  obtain ⟨_, h⟩ := gd_some h
  exact fr_lf (fr_fi fr_rf (List.mem_of_getElem? (i := 2) rfl)) h
set_option maxHeartbeats 4000000 in
theorem f_Se_point_56 {k : Nat} {x6 : Int32} {x7 : Int32} {y0 : Int32} {σ σ' : am_S} {r : Unit} (h : g_Se_point_56 k x6 x7 y0 σ = some (r, σ')) : FR [(k, 1), (k, 2), (k, 3)] [] σ σ' := by
  unfold g_Se_point_56 at h
  by_cases c7 : x7 = 0
  · rw [if_pos c7] at h
    exact fr_tr (fr_fi (fr_fi fr_rf (List.mem_of_getElem? (i := 0) rfl)) (List.mem_of_getElem? (i := 1) rfl)) (f_Se_point_76 h)
  · rw [if_neg c7] at h
    exact fr_tr (fr_fi (fr_fi fr_rf (List.mem_of_getElem? (i := 0) rfl)) (List.mem_of_getElem? (i := 1) rfl)) (f_Se_point_76 h)
set_option maxHeartbeats 4000000 in
theorem f_Se_point_38 {k : Nat} {x3 : Int64} {x5 : Int32} {x6 : Int32} {y0 : Int32} {σ σ' : am_S} {r : Unit} (h : g_Se_point_38 k x3 x5 x6 y0 σ = some (r, σ')) : FR [(k, 1), (k, 2), (k, 3)] [] σ σ' := by
  unfold g_Se_point_38 at h
  by_cases c4 : y0 = 0
  · rw [if_pos c4] at h
    exact f_Se_point_56 h
  · rw [if_neg c4] at h
    exact f_Se_point_56 h
set_option maxHeartbeats 4000000 in
theorem f_Se_point_37 {k : Nat} {x3 : Int64} {x5 : Int32} {x6 : Int32} {σ σ' : am_S} {r : Unit} (h : g_Se_point_37 k x3 x5 x6 σ = some (r, σ')) : FR [(k, 1), (k, 2), (k, 3)] [] σ σ' := by
  unfold g_Se_point_37 at h
  exact f_Se_point_38 h
set_option maxHeartbeats 4000000 in
theorem f_Se_point_0 {k : Nat} {x2 : Int32} {x3 : Int64} {σ σ' : am_S} {r : Unit} (h : g_Se_point k x2 x3 σ = some (r, σ')) : FR [(k, 1), (k, 2), (k, 3)] [] σ σ' := by
  unfold g_Se_point at h
  obtain ⟨_, h⟩ := gd_some h
  obtain ⟨_, h⟩ := gd_some h
  by_cases c14 : (lg_cmp x3 0) < 0
  · rw [if_pos c14] at h
    exact f_Se_point_37 h
  · rw [if_neg c14] at h
    by_cases c21 : 0 < (lg_cmp x3 (((σ.2.1 7 x2.toNatClampNeg) - (σ.2.1 6 x2.toNatClampNeg)).toInt64))
    · rw [if_pos c21] at h
      exact f_Se_point_37 h
    · rw [if_neg c21] at h
      exact f_Se_point_38 h
theorem f_Se_point {k : Nat} {x2 : Int32} {x3 : Int64} {σ σ' : am_S} {r : Unit} (h : g_Se_point k x2 x3 σ = some (r, σ')) : FR [(k, 1), (k, 2), (k, 3)] [] σ σ' := f_Se_point_0 h
set_option maxHeartbeats 4000000 in
theorem f_Se_textAt_35 {y0 : Int32} {σ σ' : am_S} {r : Int32} (h : g_Se_textAt_35 y0 σ = some (r, σ')) : FR [(9, 1), (9, 2), (9, 3)] [] σ σ' := by
  unfold g_Se_textAt_35 at h
  exact fr_lf fr_rf h
set_option maxHeartbeats 4000000 in
theorem f_Se_textAt_0 {x1 : Int32} {x2 : Int64} {σ σ' : am_S} {r : Int32} (h : g_Se_textAt x1 x2 σ = some (r, σ')) : FR [(9, 1), (9, 2), (9, 3)] [] σ σ' := by
  unfold g_Se_textAt at h
  obtain ⟨v6, σ6, e6, h⟩ := am_bd_some h
  have f6 : FR [(9, 1), (9, 2), (9, 3)] [] σ σ6 := f_Se_point e6
  obtain ⟨v9, σ9, e9, h⟩ := am_bd_some h
  have f9 : FR [(9, 1), (9, 2), (9, 3)] [] σ σ9 := fr_tr f6 (fr_up (f_Cu_text e9) (by decide) (fun _ h9 => h9))
  by_cases c14 : (σ9.1.1 9 3) = 0
  · rw [if_pos c14] at h
    exact fr_tr f9 (f_Se_textAt_35 h)
  · rw [if_neg c14] at h
    exact fr_tr f9 (f_Se_textAt_35 h)
theorem f_Se_textAt {x1 : Int32} {x2 : Int64} {σ σ' : am_S} {r : Int32} (h : g_Se_textAt x1 x2 σ = some (r, σ')) : FR [(9, 1), (9, 2), (9, 3)] [] σ σ' := f_Se_textAt_0 h
set_option maxHeartbeats 4000000 in
theorem f_Se_readHead_143 {σ σ' : am_S} {r : Int32} (h : g_Se_readHead_143 σ = some (r, σ')) : FR [(2, 10), (2, 8), (2, 9), (9, 1), (9, 2), (9, 3)] [] σ σ' := by
  unfold g_Se_readHead_143 at h
  exact fr_lf fr_rf h
set_option maxHeartbeats 4000000 in
theorem f_Se_readHead_166 {σ σ' : am_S} {r : Int32} (h : g_Se_readHead_166 σ = some (r, σ')) : FR [(2, 10), (2, 8), (2, 9), (9, 1), (9, 2), (9, 3)] [] σ σ' := by
  unfold g_Se_readHead_166 at h
  exact fr_lf fr_rf h
set_option maxHeartbeats 4000000 in
theorem f_Se_readHead_10 : ∀ (n : Nat) {x1 : Int32} {x2 : Int32} {σ σ' : am_S} {r : Int32} (h : g_Se_readHead_10 n x1 x2 σ = some (r, σ')), FR [(2, 10), (2, 8), (2, 9), (9, 1), (9, 2), (9, 3)] [] σ σ' := by
  intro n
  induction n with
  | zero =>
    intro x1 x2 σ σ' r h
    cases h
  | succ n ih =>
  intro x1 x2 σ σ' r h
  unfold g_Se_readHead_10 at h
  by_cases c4 : x2 < (Int32.ofNat 7)
  · rw [if_pos c4] at h
    obtain ⟨_, h⟩ := gd_some h
    obtain ⟨_, h⟩ := gd_some h
    by_cases c12 : (σ.2.1 1 x2.toNatClampNeg) = (am_cs S_c 65 x2.toNatClampNeg)
    · rw [if_pos c12] at h
      exact ih h
    · rw [if_neg c12] at h
      exact fr_lf fr_rf h
  · rw [if_neg c4] at h
    obtain ⟨v9, σ9, e9, h⟩ := am_bd_some h
    have f9 : FR [(2, 10), (2, 8), (2, 9), (9, 1), (9, 2), (9, 3)] [] σ σ9 := fr_up (f_Cu_set e9) (by decide) (fun _ h9 => h9)
    obtain ⟨v13, σ13, e13, h⟩ := am_bd_some h
    have f13 : FR [(2, 10), (2, 8), (2, 9), (9, 1), (9, 2), (9, 3)] [] σ σ13 := fr_tr f9 (fr_up (f_Cu_number e13) (by decide) (fun _ h9 => h9))
    obtain ⟨v19, σ19, e19, h⟩ := am_bd_some h
    have f19 : FR [(2, 10), (2, 8), (2, 9), (9, 1), (9, 2), (9, 3)] [] σ σ19 := fr_tr f13 (fr_up (f_Cu_set e19) (by decide) (fun _ h9 => h9))
    obtain ⟨v23, σ23, e23, h⟩ := am_bd_some h
    have f23 : FR [(2, 10), (2, 8), (2, 9), (9, 1), (9, 2), (9, 3)] [] σ σ23 := fr_tr f19 (fr_up (f_Cu_number e23) (by decide) (fun _ h9 => h9))
    obtain ⟨v29, σ29, e29, h⟩ := am_bd_some h
    have f29 : FR [(2, 10), (2, 8), (2, 9), (9, 1), (9, 2), (9, 3)] [] σ σ29 := fr_tr f23 (fr_up (f_Cu_number e29) (by decide) (fun _ h9 => h9))
    obtain ⟨v36, σ36, e36, h⟩ := am_bd_some h
    have f36 : FR [(2, 10), (2, 8), (2, 9), (9, 1), (9, 2), (9, 3)] [] σ σ36 := fr_tr (fr_fi f29 (List.mem_of_getElem? (i := 1) rfl)) (fr_up (f_Cu_number e36) (by decide) (fun _ h9 => h9))
    by_cases c42 : (lg_cmp v23 64) = 0
    · rw [if_pos c42] at h
      by_cases c46 : (σ36.1.1 2 8) < 1
      · rw [if_pos c46] at h
        exact fr_tr (fr_fi f36 (List.mem_of_getElem? (i := 0) rfl)) (f_Se_readHead_143 h)
      · rw [if_neg c46] at h
        by_cases c50 : 24 < (σ36.1.1 2 8)
        · rw [if_pos c50] at h
          exact fr_tr (fr_fi f36 (List.mem_of_getElem? (i := 0) rfl)) (f_Se_readHead_143 h)
        · rw [if_neg c50] at h
          by_cases c55 : v36.toInt32 < (σ36.1.1 2 8)
          · rw [if_pos c55] at h
            by_cases c59 : (lg_cmp v13 0) < 0
            · rw [if_pos c59] at h
              exact fr_tr (fr_fi f36 (List.mem_of_getElem? (i := 0) rfl)) (f_Se_readHead_166 h)
            · rw [if_neg c59] at h
              by_cases c69 : 0 < (lg_cmp v13 ((x1 - (64 * (σ36.1.1 2 8))).toInt64))
              · rw [if_pos c69] at h
                exact fr_tr (fr_fi f36 (List.mem_of_getElem? (i := 0) rfl)) (f_Se_readHead_166 h)
              · rw [if_neg c69] at h
                exact fr_lf (fr_fi (fr_fi f36 (List.mem_of_getElem? (i := 0) rfl)) (List.mem_of_getElem? (i := 2) rfl)) h
          · rw [if_neg c55] at h
            exact fr_tr (fr_fi f36 (List.mem_of_getElem? (i := 0) rfl)) (f_Se_readHead_143 h)
    · rw [if_neg c42] at h
      exact fr_tr (fr_fi f36 (List.mem_of_getElem? (i := 0) rfl)) (f_Se_readHead_143 h)
set_option maxHeartbeats 4000000 in
theorem f_Se_readHead_0 {x1 : Int32} {σ σ' : am_S} {r : Int32} (h : g_Se_readHead x1 σ = some (r, σ')) : FR [(2, 10), (2, 8), (2, 9), (9, 1), (9, 2), (9, 3)] [] σ σ' := by
  unfold g_Se_readHead at h
  by_cases c3 : x1 < 64
  · rw [if_pos c3] at h
    exact fr_lf fr_rf h
  · rw [if_neg c3] at h
    exact f_Se_readHead_10 4000 h
theorem f_Se_readHead {x1 : Int32} {σ σ' : am_S} {r : Int32} (h : g_Se_readHead x1 σ = some (r, σ')) : FR [(2, 10), (2, 8), (2, 9), (9, 1), (9, 2), (9, 3)] [] σ σ' := f_Se_readHead_0 h
set_option maxHeartbeats 4000000 in
theorem f_Se_readHeader_129 {σ σ' : am_S} {r : Int32} (h : g_Se_readHeader_129 σ = some (r, σ')) : FR [(9, 1), (9, 2), (9, 3)] [3, 4, 5] σ σ' := by
  unfold g_Se_readHeader_129 at h
  exact fr_lf fr_rf h
set_option maxHeartbeats 4000000 in
theorem f_Se_readHeader_0 {x1 : Int32} {x2 : Int32} {σ σ' : am_S} {r : Int32} (h : g_Se_readHeader x1 x2 σ = some (r, σ')) : FR [(9, 1), (9, 2), (9, 3)] [3, 4, 5] σ σ' := by
  unfold g_Se_readHeader at h
  obtain ⟨v10, σ10, e10, h⟩ := am_bd_some h
  have f10 : FR [(9, 1), (9, 2), (9, 3)] [3, 4, 5] σ σ10 := fr_up (f_Cu_set e10) (fun _ h9 => h9) (by decide)
  obtain ⟨v17, σ17, e17, h⟩ := am_bd_some h
  have f17 : FR [(9, 1), (9, 2), (9, 3)] [3, 4, 5] σ σ17 := fr_tr f10 (fr_up (f_Cu_number e17) (by decide) (by decide))
  obtain ⟨_, h⟩ := gd_some h
  obtain ⟨v22, σ22, e22, h⟩ := am_bd_some h
  have f22 : FR [(9, 1), (9, 2), (9, 3)] [3, 4, 5] σ σ22 := fr_tr (fr_al f17 (List.mem_of_getElem? (i := 2) rfl)) (fr_up (f_Cu_number e22) (by decide) (by decide))
  obtain ⟨v27, σ27, e27, h⟩ := am_bd_some h
  have f27 : FR [(9, 1), (9, 2), (9, 3)] [3, 4, 5] σ σ27 := fr_tr f22 (fr_up (f_Cu_skip e27) (by decide) (by decide))
  obtain ⟨v31, σ31, e31, h⟩ := am_bd_some h
  have f31 : FR [(9, 1), (9, 2), (9, 3)] [3, 4, 5] σ σ31 := fr_tr f27 (fr_up (f_Cu_number e31) (by decide) (by decide))
  obtain ⟨v36, σ36, e36, h⟩ := am_bd_some h
  have f36 : FR [(9, 1), (9, 2), (9, 3)] [3, 4, 5] σ σ36 := fr_tr f31 (fr_up (f_Cu_number e36) (by decide) (by decide))
  by_cases c41 : (lg_cmp v22 8) = 0
  · rw [if_pos c41] at h
    obtain ⟨_, h⟩ := gd_some h
    obtain ⟨_, h⟩ := gd_some h
    exact fr_lf (fr_ai (fr_ai f36 (List.mem_of_getElem? (i := 0) rfl)) (List.mem_of_getElem? (i := 1) rfl)) h
  · rw [if_neg c41] at h
    by_cases c45 : (lg_cmp v31 0) < 0
    · rw [if_pos c45] at h
      exact fr_tr f36 (f_Se_readHeader_129 h)
    · rw [if_neg c45] at h
      by_cases c50 : 0 < (lg_cmp v31 x2.toInt64)
      · rw [if_pos c50] at h
        exact fr_tr f36 (f_Se_readHeader_129 h)
      · rw [if_neg c50] at h
        by_cases c54 : (lg_cmp v36 0) < 0
        · rw [if_pos c54] at h
          exact fr_tr f36 (f_Se_readHeader_129 h)
        · rw [if_neg c54] at h
          by_cases c61 : 0 < (lg_cmp v36 (x2.toInt64 - v31))
          · rw [if_pos c61] at h
            exact fr_tr f36 (f_Se_readHeader_129 h)
          · rw [if_neg c61] at h
            obtain ⟨_, h⟩ := gd_some h
            obtain ⟨_, h⟩ := gd_some h
            exact fr_lf (fr_ai (fr_ai f36 (List.mem_of_getElem? (i := 0) rfl)) (List.mem_of_getElem? (i := 1) rfl)) h
theorem f_Se_readHeader {x1 : Int32} {x2 : Int32} {σ σ' : am_S} {r : Int32} (h : g_Se_readHeader x1 x2 σ = some (r, σ')) : FR [(9, 1), (9, 2), (9, 3)] [3, 4, 5] σ σ' := f_Se_readHeader_0 h
set_option maxHeartbeats 4000000 in
theorem f_En_forgetAll_0 {σ σ' : am_S} {r : Unit} (h : g_En_forgetAll σ = some (r, σ')) : FR [(10, 10), (10, 11)] [] σ σ' := by
  unfold g_En_forgetAll at h
  exact fr_lf (fr_fi (fr_fi fr_rf (List.mem_of_getElem? (i := 0) rfl)) (List.mem_of_getElem? (i := 1) rfl)) h
theorem f_En_forgetAll {σ σ' : am_S} {r : Unit} (h : g_En_forgetAll σ = some (r, σ')) : FR [(10, 10), (10, 11)] [] σ σ' := f_En_forgetAll_0 h
set_option maxHeartbeats 4000000 in
theorem f_En_addUnit_25 : ∀ (n : Nat) {x2 : Int32} {σ σ' : am_S} {r : Unit} (h : g_En_addUnit_25 n x2 σ = some (r, σ')), FR [(10, 11)] [17, 18, 19, 20] σ σ' := by
  intro n
  induction n with
  | zero =>
    intro x2 σ σ' r h
    cases h
  | succ n ih =>
  intro x2 σ σ' r h
  unfold g_En_addUnit_25 at h
  by_cases c3 : x2 < 4
  · rw [if_pos c3] at h
    obtain ⟨_, h⟩ := gd_some h
    obtain ⟨_, h⟩ := gd_some h
    exact fr_tr (fr_al (fr_ai fr_rf (List.mem_of_getElem? (i := 2) rfl)) (List.mem_of_getElem? (i := 3) rfl)) (ih h)
  · rw [if_neg c3] at h
    exact fr_lf (fr_fi fr_rf (List.mem_of_getElem? (i := 0) rfl)) h
set_option maxHeartbeats 4000000 in
theorem f_En_addUnit_0 {x1 : Int32} {σ σ' : am_S} {r : Unit} (h : g_En_addUnit x1 σ = some (r, σ')) : FR [(10, 11)] [17, 18, 19, 20] σ σ' := by
  unfold g_En_addUnit at h
  obtain ⟨_, h⟩ := gd_some h
  obtain ⟨_, h⟩ := gd_some h
  exact fr_tr (fr_ai (fr_ai fr_rf (List.mem_of_getElem? (i := 0) rfl)) (List.mem_of_getElem? (i := 1) rfl)) (f_En_addUnit_25 4000 h)
theorem f_En_addUnit {x1 : Int32} {σ σ' : am_S} {r : Unit} (h : g_En_addUnit x1 σ = some (r, σ')) : FR [(10, 11)] [17, 18, 19, 20] σ σ' := f_En_addUnit_0 h
set_option maxHeartbeats 4000000 in
theorem f_En_add_49 : ∀ (n : Nat) {x5 : Int32} {σ σ' : am_S} {r : Unit} (h : g_En_add_49 n x5 σ = some (r, σ')), FR [(10, 10)] [11, 12, 13, 14, 15] σ σ' := by
  intro n
  induction n with
  | zero =>
    intro x5 σ σ' r h
    cases h
  | succ n ih =>
  intro x5 σ σ' r h
  unfold g_En_add_49 at h
  by_cases c3 : x5 < 7
  · rw [if_pos c3] at h
    obtain ⟨_, h⟩ := gd_some h
    exact fr_tr (fr_ai fr_rf (List.mem_of_getElem? (i := 4) rfl)) (ih h)
  · rw [if_neg c3] at h
    exact fr_lf (fr_fi fr_rf (List.mem_of_getElem? (i := 0) rfl)) h
set_option maxHeartbeats 4000000 in
theorem f_En_add_0 {x1 : Int64} {x3 : Int32} {x4 : Int32} {σ σ' : am_S} {r : Unit} (h : g_En_add x1 x3 x4 σ = some (r, σ')) : FR [(10, 10)] [11, 12, 13, 14, 15] σ σ' := by
  unfold g_En_add at h
  obtain ⟨_, h⟩ := gd_some h
  obtain ⟨_, h⟩ := gd_some h
  obtain ⟨_, h⟩ := gd_some h
  obtain ⟨_, h⟩ := gd_some h
  exact fr_tr (fr_ai (fr_ai (fr_ai (fr_al fr_rf (List.mem_of_getElem? (i := 0) rfl)) (List.mem_of_getElem? (i := 1) rfl)) (List.mem_of_getElem? (i := 2) rfl)) (List.mem_of_getElem? (i := 3) rfl)) (f_En_add_49 4000 h)
theorem f_En_add {x1 : Int64} {x3 : Int32} {x4 : Int32} {σ σ' : am_S} {r : Unit} (h : g_En_add x1 x3 x4 σ = some (r, σ')) : FR [(10, 10)] [11, 12, 13, 14, 15] σ σ' := f_En_add_0 h
set_option maxHeartbeats 4000000 in
theorem f_En_isLookedAt_57 {y0 : Int32} {σ σ' : am_S} {r : Int32} (h : g_En_isLookedAt_57 y0 σ = some (r, σ')) : FR [] [] σ σ' := by
  unfold g_En_isLookedAt_57 at h
  obtain ⟨_, h⟩ := gd_some h
  exact fr_lf fr_rf h
set_option maxHeartbeats 4000000 in
theorem f_En_isLookedAt_52 {σ σ' : am_S} {r : Int32} (h : g_En_isLookedAt_52 σ = some (r, σ')) : FR [] [] σ σ' := by
  unfold g_En_isLookedAt_52 at h
  exact f_En_isLookedAt_57 h
set_option maxHeartbeats 4000000 in
theorem f_En_isLookedAt_0 {x1 : Int32} {σ σ' : am_S} {r : Int32} (h : g_En_isLookedAt x1 σ = some (r, σ')) : FR [] [] σ σ' := by
  unfold g_En_isLookedAt at h
  obtain ⟨_, h⟩ := gd_some h
  by_cases c7 : (lg_cmp (σ.2.2 11 x1.toNatClampNeg) 17) = 0
  · rw [if_pos c7] at h
    exact f_En_isLookedAt_52 h
  · rw [if_neg c7] at h
    obtain ⟨_, h⟩ := gd_some h
    by_cases c14 : (lg_cmp (σ.2.2 11 x1.toNatClampNeg) 46) = 0
    · rw [if_pos c14] at h
      exact f_En_isLookedAt_52 h
    · rw [if_neg c14] at h
      obtain ⟨_, h⟩ := gd_some h
      by_cases c21 : (lg_cmp (σ.2.2 11 x1.toNatClampNeg) 29) = 0
      · rw [if_pos c21] at h
        exact f_En_isLookedAt_52 h
      · rw [if_neg c21] at h
        obtain ⟨_, h⟩ := gd_some h
        by_cases c28 : (lg_cmp (σ.2.2 11 x1.toNatClampNeg) 11) = 0
        · rw [if_pos c28] at h
          exact f_En_isLookedAt_52 h
        · rw [if_neg c28] at h
          exact f_En_isLookedAt_57 h
theorem f_En_isLookedAt {x1 : Int32} {σ σ' : am_S} {r : Int32} (h : g_En_isLookedAt x1 σ = some (r, σ')) : FR [] [] σ σ' := f_En_isLookedAt_0 h
set_option maxHeartbeats 4000000 in
theorem f_En_keepFirst_15_16_15 {σ σ' : am_S} {r : Unit} (h : g_En_keepFirst_15_16_15 σ = some (r, σ')) : FR [] [15, 16] σ σ' := by
  unfold g_En_keepFirst_15_16_15 at h
  exact fr_lf fr_rf h
set_option maxHeartbeats 4000000 in
theorem f_En_keepFirst_15_16_0 {x2 : Int32} {x3 : Int32} {x4 : Int64} {σ σ' : am_S} {r : Unit} (h : g_En_keepFirst_15_16 x2 x3 x4 σ = some (r, σ')) : FR [] [15, 16] σ σ' := by
  unfold g_En_keepFirst_15_16 at h
  obtain ⟨_, h⟩ := gd_some h
  by_cases c4 : (σ.2.1 15 x2.toNatClampNeg) = 0
  · rw [if_pos c4] at h
    obtain ⟨_, h⟩ := gd_some h
    obtain ⟨_, h⟩ := gd_some h
    exact fr_tr (fr_al (fr_ai fr_rf (List.mem_of_getElem? (i := 0) rfl)) (List.mem_of_getElem? (i := 1) rfl)) (f_En_keepFirst_15_16_15 h)
  · rw [if_neg c4] at h
    exact f_En_keepFirst_15_16_15 h
theorem f_En_keepFirst_15_16 {x2 : Int32} {x3 : Int32} {x4 : Int64} {σ σ' : am_S} {r : Unit} (h : g_En_keepFirst_15_16 x2 x3 x4 σ = some (r, σ')) : FR [] [15, 16] σ σ' := f_En_keepFirst_15_16_0 h
set_option maxHeartbeats 4000000 in
theorem f_En_keepFirst_19_20_15 {σ σ' : am_S} {r : Unit} (h : g_En_keepFirst_19_20_15 σ = some (r, σ')) : FR [] [19, 20] σ σ' := by
  unfold g_En_keepFirst_19_20_15 at h
  exact fr_lf fr_rf h
set_option maxHeartbeats 4000000 in
theorem f_En_keepFirst_19_20_0 {x2 : Int32} {x3 : Int32} {x4 : Int64} {σ σ' : am_S} {r : Unit} (h : g_En_keepFirst_19_20 x2 x3 x4 σ = some (r, σ')) : FR [] [19, 20] σ σ' := by
  unfold g_En_keepFirst_19_20 at h
  obtain ⟨_, h⟩ := gd_some h
  by_cases c4 : (σ.2.1 19 x2.toNatClampNeg) = 0
  · rw [if_pos c4] at h
    obtain ⟨_, h⟩ := gd_some h
    obtain ⟨_, h⟩ := gd_some h
    exact fr_tr (fr_al (fr_ai fr_rf (List.mem_of_getElem? (i := 0) rfl)) (List.mem_of_getElem? (i := 1) rfl)) (f_En_keepFirst_19_20_15 h)
  · rw [if_neg c4] at h
    exact f_En_keepFirst_19_20_15 h
theorem f_En_keepFirst_19_20 {x2 : Int32} {x3 : Int32} {x4 : Int64} {σ σ' : am_S} {r : Unit} (h : g_En_keepFirst_19_20 x2 x3 x4 σ = some (r, σ')) : FR [] [19, 20] σ σ' := f_En_keepFirst_19_20_0 h
set_option maxHeartbeats 4000000 in
theorem f_En_keep_109 {σ σ' : am_S} {r : Unit} (h : g_En_keep_109 σ = some (r, σ')) : FR [] [15, 16, 19, 20] σ σ' := by
  unfold g_En_keep_109 at h
  exact fr_lf fr_rf h
set_option maxHeartbeats 4000000 in
theorem f_En_keep_63 {x3 : Int32} {x4 : Int64} {x6 : Int32} {x8 : Int32} {σ σ' : am_S} {r : Unit} (h : g_En_keep_63 x3 x4 x6 x8 σ = some (r, σ')) : FR [] [15, 16, 19, 20] σ σ' := by
  unfold g_En_keep_63 at h
  by_cases c3 : x8 = (-1)
  · rw [if_pos c3] at h
    exact f_En_keep_109 h
  · rw [if_neg c3] at h
    obtain ⟨_, h⟩ := gd_some h
    by_cases c10 : (lg_cmp (σ.2.2 11 x6.toNatClampNeg) 17) = 0
    · rw [if_pos c10] at h
      obtain ⟨_, h⟩ := gd_some h
      obtain ⟨v25, σ25, e25, h⟩ := am_bd_some h
      have f25 : FR [] [15, 16, 19, 20] σ σ25 := fr_up (f_En_keepFirst_19_20 e25) (fun _ h9 => h9) (by decide)
      exact fr_tr f25 (f_En_keep_109 h)
    · rw [if_neg c10] at h
      exact f_En_keep_109 h
set_option maxHeartbeats 4000000 in
theorem f_En_keep_0 {x1 : Int64} {x3 : Int32} {x4 : Int64} {σ σ' : am_S} {r : Unit} (h : g_En_keep x1 x3 x4 σ = some (r, σ')) : FR [] [15, 16, 19, 20] σ σ' := by
  unfold g_En_keep at h
  obtain ⟨v8, σ8, e8, h⟩ := am_bd_some h
  have f8 : FR [] [15, 16, 19, 20] σ σ8 := fr_up (f_F_indexOf_66 e8) (fun _ h9 => (by cases h9)) (fun _ h9 => (by cases h9))
  obtain ⟨v12, σ12, e12, h⟩ := am_bd_some h
  have f12 : FR [] [15, 16, 19, 20] σ σ12 := fr_tr f8 (fr_up (f_F_indexOf_67 e12) (fun _ h9 => (by cases h9)) (fun _ h9 => (by cases h9)))
  by_cases c16 : v8 = (-1)
  · rw [if_pos c16] at h
    exact fr_tr f12 (f_En_keep_63 h)
  · rw [if_neg c16] at h
    obtain ⟨v19, σ19, e19, h⟩ := am_bd_some h
    have f19 : FR [] [15, 16, 19, 20] σ σ19 := fr_tr f12 (fr_up (f_En_isLookedAt e19) (fun _ h9 => (by cases h9)) (fun _ h9 => (by cases h9)))
    by_cases c20 : v19 = 0
    · rw [if_pos c20] at h
      exact fr_tr f19 (f_En_keep_63 h)
    · rw [if_neg c20] at h
      obtain ⟨v32, σ32, e32, h⟩ := am_bd_some h
      have f32 : FR [] [15, 16, 19, 20] σ σ32 := fr_tr f19 (fr_up (f_En_keepFirst_15_16 e32) (fun _ h9 => h9) (by decide))
      exact fr_tr f32 (f_En_keep_63 h)
theorem f_En_keep {x1 : Int64} {x3 : Int32} {x4 : Int64} {σ σ' : am_S} {r : Unit} (h : g_En_keep x1 x3 x4 σ = some (r, σ')) : FR [] [15, 16, 19, 20] σ σ' := f_En_keep_0 h
set_option maxHeartbeats 4000000 in
theorem f_En_has_19 {y0 : Int32} {σ σ' : am_S} {r : Int32} (h : g_En_has_19 y0 σ = some (r, σ')) : FR [] [] σ σ' := by
  unfold g_En_has_19 at h
  obtain ⟨_, h⟩ := gd_some h
  exact fr_lf fr_rf h
set_option maxHeartbeats 4000000 in
theorem f_En_has_0 {x1 : Int32} {x2 : Int32} {σ σ' : am_S} {r : Int32} (h : g_En_has x1 x2 σ = some (r, σ')) : FR [] [] σ σ' := by
  unfold g_En_has at h
  obtain ⟨_, h⟩ := gd_some h
  by_cases c9 : (σ.2.1 15 ((x1 * 7) + x2).toNatClampNeg) = 0
  · rw [if_pos c9] at h
    exact f_En_has_19 h
  · rw [if_neg c9] at h
    exact f_En_has_19 h
theorem f_En_has {x1 : Int32} {x2 : Int32} {σ σ' : am_S} {r : Int32} (h : g_En_has x1 x2 σ = some (r, σ')) : FR [] [] σ σ' := f_En_has_0 h
set_option maxHeartbeats 4000000 in
theorem f_En_valueOf_0 {x1 : Int32} {x2 : Int32} {σ σ' : am_S} {r : Int64} (h : g_En_valueOf x1 x2 σ = some (r, σ')) : FR [] [] σ σ' := by
  unfold g_En_valueOf at h
  obtain ⟨_, h⟩ := gd_some h
  exact fr_lf fr_rf h
theorem f_En_valueOf {x1 : Int32} {x2 : Int32} {σ σ' : am_S} {r : Int64} (h : g_En_valueOf x1 x2 σ = some (r, σ')) : FR [] [] σ σ' := f_En_valueOf_0 h
