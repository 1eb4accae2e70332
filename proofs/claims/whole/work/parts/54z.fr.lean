set_option maxHeartbeats 4000000 in
theorem f_Se_choose_68 {x1 : Int32} {x2 : Int32} {x3 : Int32} {x4 : Int32} {σ σ' : am_S} {r : Unit} {go : Int32 → Int32 → Int32 → Int32 → am_S → Option (Unit × am_S)} (hgo : ∀ {x1 : Int32} {x2 : Int32} {x3 : Int32} {x4 : Int32} {σ σ' : am_S} {r : Unit}, go x1 x2 x3 x4 σ = some (r, σ') → FR [] [6, 7, 8] σ σ') (h : g_Se_choose_68 go x1 x2 x3 x4 σ = some (r, σ')) : FR [] [6, 7, 8] σ σ' := by
  unfold g_Se_choose_68 at h
  exact hgo h
set_option maxHeartbeats 4000000 in
theorem f_Se_choose_3 : ∀ (n : Nat) {x1 : Int32} {x2 : Int32} {x3 : Int32} {x4 : Int32} {σ σ' : am_S} {r : Unit} (h : g_Se_choose_3 n x1 x2 x3 x4 σ = some (r, σ')), FR [] [6, 7, 8] σ σ' := by
  intro n
  induction n with
  | zero =>
    intro x1 x2 x3 x4 σ σ' r h
    cases h
  | succ n ih =>
  intro x1 x2 x3 x4 σ σ' r h
  unfold g_Se_choose_3 at h
  by_cases c3 : x4 < 10
  · rw [if_pos c3] at h
    obtain ⟨_, h⟩ := gd_some h
    by_cases c8 : (σ.2.1 8 x4.toNatClampNeg) = 0
    · rw [if_pos c8] at h
      obtain ⟨v14, σ14, e14, h⟩ := am_bd_some h
      have f14 : FR [] [6, 7, 8] σ σ14 := fr_up (f_Se_isCalled e14) (fun _ h9 => (by cases h9)) (fun _ h9 => (by cases h9))
      by_cases c15 : v14 = 0
      · rw [if_pos c15] at h
        exact fr_tr f14 (f_Se_choose_68 (fun h => ih h) h)
      · rw [if_neg c15] at h
        obtain ⟨_, h⟩ := gd_some h
        obtain ⟨_, h⟩ := gd_some h
        obtain ⟨_, h⟩ := gd_some h
        obtain ⟨_, h⟩ := gd_some h
        obtain ⟨_, h⟩ := gd_some h
        exact fr_tr (fr_ai (fr_ai (fr_ai f14 (List.mem_of_getElem? (i := 2) rfl)) (List.mem_of_getElem? (i := 0) rfl)) (List.mem_of_getElem? (i := 1) rfl)) (f_Se_choose_68 (fun h => ih h) h)
    · rw [if_neg c8] at h
      exact f_Se_choose_68 (fun h => ih h) h
  · rw [if_neg c3] at h
    exact fr_lf fr_rf h
set_option maxHeartbeats 4000000 in
theorem f_Se_choose_0 {x1 : Int32} {x2 : Int32} {x3 : Int32} {σ σ' : am_S} {r : Unit} (h : g_Se_choose x1 x2 x3 σ = some (r, σ')) : FR [] [6, 7, 8] σ σ' := by
  unfold g_Se_choose at h
  exact f_Se_choose_3 4000 h
theorem f_Se_choose {x1 : Int32} {x2 : Int32} {x3 : Int32} {σ σ' : am_S} {r : Unit} (h : g_Se_choose x1 x2 x3 σ = some (r, σ')) : FR [] [6, 7, 8] σ σ' := f_Se_choose_0 h
set_option maxHeartbeats 4000000 in
theorem f_Se_readNames_37 : ∀ (n : Nat) {x1 : Int32} {σ σ' : am_S} {r : Int32} (h : g_Se_readNames_37 n x1 σ = some (r, σ')), FR [(9, 1), (9, 2), (9, 3)] [6, 7, 8] σ σ' := by
  intro n
  induction n with
  | zero =>
    intro x1 σ σ' r h
    cases h
  | succ n ih =>
  intro x1 σ σ' r h
  unfold g_Se_readNames_37 at h
  by_cases c4 : x1 < (σ.1.1 2 8)
  · rw [if_pos c4] at h
    obtain ⟨_, h⟩ := gd_some h
    obtain ⟨_, h⟩ := gd_some h
    obtain ⟨v17, σ17, e17, h⟩ := am_bd_some h
    have f17 : FR [(9, 1), (9, 2), (9, 3)] [6, 7, 8] σ σ17 := fr_up (f_Cu_set e17) (fun _ h9 => h9) (by decide)
    obtain ⟨_, h⟩ := gd_some h
    obtain ⟨v24, σ24, e24, h⟩ := am_bd_some h
    have f24 : FR [(9, 1), (9, 2), (9, 3)] [6, 7, 8] σ σ24 := fr_tr f17 (fr_up (f_Cu_skip e24) (by decide) (by decide))
    obtain ⟨v27, σ27, e27, h⟩ := am_bd_some h
    have f27 : FR [(9, 1), (9, 2), (9, 3)] [6, 7, 8] σ σ27 := fr_tr f24 (fr_up (f_Cu_text e27) (by decide) (by decide))
    by_cases c32 : (σ27.1.1 9 3) = 0
    · rw [if_pos c32] at h
      obtain ⟨v41, σ41, e41, h⟩ := am_bd_some h
      have f41 : FR [(9, 1), (9, 2), (9, 3)] [6, 7, 8] σ σ41 := fr_tr f27 (fr_up (f_Se_choose e41) (by decide) (fun _ h9 => h9))
      exact fr_tr f41 (ih h)
    · rw [if_neg c32] at h
      exact fr_lf f27 h
  · rw [if_neg c4] at h
    exact fr_lf fr_rf h
set_option maxHeartbeats 4000000 in
theorem f_Se_readNames_2 : ∀ (n : Nat) {x1 : Int32} {σ σ' : am_S} {r : Int32} (h : g_Se_readNames_2 n x1 σ = some (r, σ')), FR [(9, 1), (9, 2), (9, 3)] [6, 7, 8] σ σ' := by
  intro n
  induction n with
  | zero =>
    intro x1 σ σ' r h
    cases h
  | succ n ih =>
  intro x1 σ σ' r h
  unfold g_Se_readNames_2 at h
  by_cases c3 : x1 < 10
  · rw [if_pos c3] at h
    obtain ⟨_, h⟩ := gd_some h
    obtain ⟨_, h⟩ := gd_some h
    obtain ⟨_, h⟩ := gd_some h
    exact fr_tr (fr_ai (fr_ai (fr_ai fr_rf (List.mem_of_getElem? (i := 0) rfl)) (List.mem_of_getElem? (i := 1) rfl)) (List.mem_of_getElem? (i := 2) rfl)) (ih h)
  · rw [if_neg c3] at h
    exact f_Se_readNames_37 4000 h
set_option maxHeartbeats 4000000 in
theorem f_Se_readNames_0 {σ σ' : am_S} {r : Int32} (h : g_Se_readNames σ = some (r, σ')) : FR [(9, 1), (9, 2), (9, 3)] [6, 7, 8] σ σ' := by
  unfold g_Se_readNames at h
  exact f_Se_readNames_2 4000 h
theorem f_Se_readNames {σ σ' : am_S} {r : Int32} (h : g_Se_readNames σ = some (r, σ')) : FR [(9, 1), (9, 2), (9, 3)] [6, 7, 8] σ σ' := f_Se_readNames_0 h
set_option maxHeartbeats 4000000 in
theorem f_Se_read_12 : ∀ (n : Nat) {x1 : Int32} {x2 : Int32} {σ σ' : am_S} {r : Int32} (h : g_Se_read_12 n x1 x2 σ = some (r, σ')), FR [(2, 10), (2, 8), (2, 9), (9, 1), (9, 2), (9, 3)] [3, 4, 5, 6, 7, 8] σ σ' := by
  intro n
  induction n with
  | zero =>
    intro x1 x2 σ σ' r h
    cases h
  | succ n ih =>
  intro x1 x2 σ σ' r h
  unfold g_Se_read_12 at h
  by_cases c4 : x2 < (σ.1.1 2 8)
  · rw [if_pos c4] at h
    obtain ⟨v8, σ8, e8, h⟩ := am_bd_some h
    have f8 : FR [(2, 10), (2, 8), (2, 9), (9, 1), (9, 2), (9, 3)] [3, 4, 5, 6, 7, 8] σ σ8 := fr_up (f_Se_readHeader e8) (by decide) (by decide)
    by_cases c9 : v8 = 0
    · rw [if_pos c9] at h
      exact fr_lf f8 h
    · rw [if_neg c9] at h
      exact fr_tr f8 (ih h)
  · rw [if_neg c4] at h
    obtain ⟨v6, σ6, e6, h⟩ := am_bd_some h
    have f6 : FR [(2, 10), (2, 8), (2, 9), (9, 1), (9, 2), (9, 3)] [3, 4, 5, 6, 7, 8] σ σ6 := fr_up (f_Se_readNames e6) (by decide) (by decide)
    obtain ⟨_, h⟩ := gd_some h
    exact fr_lf f6 h
set_option maxHeartbeats 4000000 in
theorem f_Se_read_0 {x1 : Int32} {σ σ' : am_S} {r : Int32} (h : g_Se_read x1 σ = some (r, σ')) : FR [(2, 10), (2, 8), (2, 9), (9, 1), (9, 2), (9, 3)] [3, 4, 5, 6, 7, 8] σ σ' := by
  unfold g_Se_read at h
  obtain ⟨v3, σ3, e3, h⟩ := am_bd_some h
  have f3 : FR [(2, 10), (2, 8), (2, 9), (9, 1), (9, 2), (9, 3)] [3, 4, 5, 6, 7, 8] σ σ3 := fr_up (f_Se_readHead e3) (fun _ h9 => h9) (by decide)
  by_cases c4 : v3 = 0
  · rw [if_pos c4] at h
    exact fr_lf f3 h
  · rw [if_neg c4] at h
    exact fr_tr f3 (f_Se_read_12 4000 h)
theorem f_Se_read {x1 : Int32} {σ σ' : am_S} {r : Int32} (h : g_Se_read x1 σ = some (r, σ')) : FR [(2, 10), (2, 8), (2, 9), (9, 1), (9, 2), (9, 3)] [3, 4, 5, 6, 7, 8] σ σ' := f_Se_read_0 h
set_option maxHeartbeats 4000000 in
theorem f_F_open_100 {σ σ' : am_S} {r : (Option Int32)} (h : g_F_open_100 σ = some (r, σ')) : FR [(0, 11), (0, 12), (10, 10), (10, 11), (2, 10), (2, 8), (2, 9), (21, 5), (21, 6), (22, 7), (30, 1), (30, 2), (30, 3), (31, 1), (31, 2), (31, 3), (32, 4), (37, 5), (37, 6), (38, 1), (38, 2), (38, 3), (39, 1), (39, 2), (39, 3), (40, 8), (49, 10), (49, 11), (49, 12), (49, 13), (49, 14), (49, 6), (49, 7), (49, 8), (49, 9), (51, 1), (51, 2), (51, 3), (52, 6), (57, 1), (57, 2), (57, 3), (58, 11), (9, 1), (9, 2), (9, 3)] [3, 4, 5, 6, 7, 8, 11, 12, 13, 14, 15, 16, 17, 18, 19, 20, 23, 24, 25, 26, 27, 28, 29, 33, 34, 35, 36, 41, 42, 43, 44, 45, 46, 47, 48, 50, 53, 54, 55, 56] σ σ' := by
  unfold g_F_open_100 at h
  by_cases c3 : (σ.1.1 0 12) = 0
  · rw [if_pos c3] at h
    exact fr_lf (fr_fi fr_rf (List.mem_of_getElem? (i := 0) rfl)) h
  · rw [if_neg c3] at h
    exact fr_lf fr_rf h
set_option maxHeartbeats 4000000 in
theorem f_F_open_0 {σ σ' : am_S} {r : (Option Int32)} (h : g_F_open σ = some (r, σ')) : FR [(0, 11), (0, 12), (10, 10), (10, 11), (2, 10), (2, 8), (2, 9), (21, 5), (21, 6), (22, 7), (30, 1), (30, 2), (30, 3), (31, 1), (31, 2), (31, 3), (32, 4), (37, 5), (37, 6), (38, 1), (38, 2), (38, 3), (39, 1), (39, 2), (39, 3), (40, 8), (49, 10), (49, 11), (49, 12), (49, 13), (49, 14), (49, 6), (49, 7), (49, 8), (49, 9), (51, 1), (51, 2), (51, 3), (52, 6), (57, 1), (57, 2), (57, 3), (58, 11), (9, 1), (9, 2), (9, 3)] [3, 4, 5, 6, 7, 8, 11, 12, 13, 14, 15, 16, 17, 18, 19, 20, 23, 24, 25, 26, 27, 28, 29, 33, 34, 35, 36, 41, 42, 43, 44, 45, 46, 47, 48, 50, 53, 54, 55, 56] σ σ' := by
  unfold g_F_open at h
  obtain ⟨v2, σ2, e2, h⟩ := am_bd_some h
  have f2 : FR [(0, 11), (0, 12), (10, 10), (10, 11), (2, 10), (2, 8), (2, 9), (21, 5), (21, 6), (22, 7), (30, 1), (30, 2), (30, 3), (31, 1), (31, 2), (31, 3), (32, 4), (37, 5), (37, 6), (38, 1), (38, 2), (38, 3), (39, 1), (39, 2), (39, 3), (40, 8), (49, 10), (49, 11), (49, 12), (49, 13), (49, 14), (49, 6), (49, 7), (49, 8), (49, 9), (51, 1), (51, 2), (51, 3), (52, 6), (57, 1), (57, 2), (57, 3), (58, 11), (9, 1), (9, 2), (9, 3)] [3, 4, 5, 6, 7, 8, 11, 12, 13, 14, 15, 16, 17, 18, 19, 20, 23, 24, 25, 26, 27, 28, 29, 33, 34, 35, 36, 41, 42, 43, 44, 45, 46, 47, 48, 50, 53, 54, 55, 56] σ σ2 := fr_up (f_F_forget e2) (by decide) (by decide)
  obtain ⟨v10, σ10, e10, h⟩ := am_bd_some h
  have f10 : FR [(0, 11), (0, 12), (10, 10), (10, 11), (2, 10), (2, 8), (2, 9), (21, 5), (21, 6), (22, 7), (30, 1), (30, 2), (30, 3), (31, 1), (31, 2), (31, 3), (32, 4), (37, 5), (37, 6), (38, 1), (38, 2), (38, 3), (39, 1), (39, 2), (39, 3), (40, 8), (49, 10), (49, 11), (49, 12), (49, 13), (49, 14), (49, 6), (49, 7), (49, 8), (49, 9), (51, 1), (51, 2), (51, 3), (52, 6), (57, 1), (57, 2), (57, 3), (58, 11), (9, 1), (9, 2), (9, 3)] [3, 4, 5, 6, 7, 8, 11, 12, 13, 14, 15, 16, 17, 18, 19, 20, 23, 24, 25, 26, 27, 28, 29, 33, 34, 35, 36, 41, 42, 43, 44, 45, 46, 47, 48, 50, 53, 54, 55, 56] σ σ10 := fr_tr (fr_fi f2 (List.mem_of_getElem? (i := 1) rfl)) (fr_up (f_Se_read e10) (by decide) (by decide))
  by_cases c11 : v10 = 0
  · rw [if_pos c11] at h
    exact fr_tr (fr_fi f10 (List.mem_of_getElem? (i := 1) rfl)) (f_F_open_100 h)
  · rw [if_neg c11] at h
    obtain ⟨v14, σ14, e14, h⟩ := am_bd_some h
    have f14 : FR [(0, 11), (0, 12), (10, 10), (10, 11), (2, 10), (2, 8), (2, 9), (21, 5), (21, 6), (22, 7), (30, 1), (30, 2), (30, 3), (31, 1), (31, 2), (31, 3), (32, 4), (37, 5), (37, 6), (38, 1), (38, 2), (38, 3), (39, 1), (39, 2), (39, 3), (40, 8), (49, 10), (49, 11), (49, 12), (49, 13), (49, 14), (49, 6), (49, 7), (49, 8), (49, 9), (51, 1), (51, 2), (51, 3), (52, 6), (57, 1), (57, 2), (57, 3), (58, 11), (9, 1), (9, 2), (9, 3)] [3, 4, 5, 6, 7, 8, 11, 12, 13, 14, 15, 16, 17, 18, 19, 20, 23, 24, 25, 26, 27, 28, 29, 33, 34, 35, 36, 41, 42, 43, 44, 45, 46, 47, 48, 50, 53, 54, 55, 56] σ σ14 := fr_tr f10 (fr_up (f_Ur_read e14) (by decide) (by decide))
    by_cases c15 : v14 = 0
    · rw [if_pos c15] at h
      exact fr_tr (fr_fi f14 (List.mem_of_getElem? (i := 1) rfl)) (f_F_open_100 h)
    · rw [if_neg c15] at h
      obtain ⟨v18, σ18, e18, h⟩ := am_bd_some h
      have f18 : FR [(0, 11), (0, 12), (10, 10), (10, 11), (2, 10), (2, 8), (2, 9), (21, 5), (21, 6), (22, 7), (30, 1), (30, 2), (30, 3), (31, 1), (31, 2), (31, 3), (32, 4), (37, 5), (37, 6), (38, 1), (38, 2), (38, 3), (39, 1), (39, 2), (39, 3), (40, 8), (49, 10), (49, 11), (49, 12), (49, 13), (49, 14), (49, 6), (49, 7), (49, 8), (49, 9), (51, 1), (51, 2), (51, 3), (52, 6), (57, 1), (57, 2), (57, 3), (58, 11), (9, 1), (9, 2), (9, 3)] [3, 4, 5, 6, 7, 8, 11, 12, 13, 14, 15, 16, 17, 18, 19, 20, 23, 24, 25, 26, 27, 28, 29, 33, 34, 35, 36, 41, 42, 43, 44, 45, 46, 47, 48, 50, 53, 54, 55, 56] σ σ18 := fr_tr f14 (fr_up (f_Va_read e18) (by decide) (by decide))
      by_cases c19 : v18 = 0
      · rw [if_pos c19] at h
        exact fr_tr (fr_fi f18 (List.mem_of_getElem? (i := 1) rfl)) (f_F_open_100 h)
      · rw [if_neg c19] at h
        obtain ⟨v22, σ22, e22, h⟩ := am_bd_some h
        have f22 : FR [(0, 11), (0, 12), (10, 10), (10, 11), (2, 10), (2, 8), (2, 9), (21, 5), (21, 6), (22, 7), (30, 1), (30, 2), (30, 3), (31, 1), (31, 2), (31, 3), (32, 4), (37, 5), (37, 6), (38, 1), (38, 2), (38, 3), (39, 1), (39, 2), (39, 3), (40, 8), (49, 10), (49, 11), (49, 12), (49, 13), (49, 14), (49, 6), (49, 7), (49, 8), (49, 9), (51, 1), (51, 2), (51, 3), (52, 6), (57, 1), (57, 2), (57, 3), (58, 11), (9, 1), (9, 2), (9, 3)] [3, 4, 5, 6, 7, 8, 11, 12, 13, 14, 15, 16, 17, 18, 19, 20, 23, 24, 25, 26, 27, 28, 29, 33, 34, 35, 36, 41, 42, 43, 44, 45, 46, 47, 48, 50, 53, 54, 55, 56] σ σ22 := fr_tr f18 (fr_up (f_Li_read e22) (by decide) (by decide))
        by_cases c23 : v22 = 0
        · rw [if_pos c23] at h
          exact fr_tr (fr_fi f22 (List.mem_of_getElem? (i := 1) rfl)) (f_F_open_100 h)
        · rw [if_neg c23] at h
          obtain ⟨v26, σ26, e26, h⟩ := am_bd_some h
          have f26 : FR [(0, 11), (0, 12), (10, 10), (10, 11), (2, 10), (2, 8), (2, 9), (21, 5), (21, 6), (22, 7), (30, 1), (30, 2), (30, 3), (31, 1), (31, 2), (31, 3), (32, 4), (37, 5), (37, 6), (38, 1), (38, 2), (38, 3), (39, 1), (39, 2), (39, 3), (40, 8), (49, 10), (49, 11), (49, 12), (49, 13), (49, 14), (49, 6), (49, 7), (49, 8), (49, 9), (51, 1), (51, 2), (51, 3), (52, 6), (57, 1), (57, 2), (57, 3), (58, 11), (9, 1), (9, 2), (9, 3)] [3, 4, 5, 6, 7, 8, 11, 12, 13, 14, 15, 16, 17, 18, 19, 20, 23, 24, 25, 26, 27, 28, 29, 33, 34, 35, 36, 41, 42, 43, 44, 45, 46, 47, 48, 50, 53, 54, 55, 56] σ σ26 := fr_tr f22 (fr_up (f_Sy_read e26) (by decide) (by decide))
          by_cases c27 : v26 = 0
          · rw [if_pos c27] at h
            exact fr_tr (fr_fi f26 (List.mem_of_getElem? (i := 1) rfl)) (f_F_open_100 h)
          · rw [if_neg c27] at h
            exact fr_tr f26 (f_F_open_100 h)
theorem f_F_open {σ σ' : am_S} {r : (Option Int32)} (h : g_F_open σ = some (r, σ')) : FR [(0, 11), (0, 12), (10, 10), (10, 11), (2, 10), (2, 8), (2, 9), (21, 5), (21, 6), (22, 7), (30, 1), (30, 2), (30, 3), (31, 1), (31, 2), (31, 3), (32, 4), (37, 5), (37, 6), (38, 1), (38, 2), (38, 3), (39, 1), (39, 2), (39, 3), (40, 8), (49, 10), (49, 11), (49, 12), (49, 13), (49, 14), (49, 6), (49, 7), (49, 8), (49, 9), (51, 1), (51, 2), (51, 3), (52, 6), (57, 1), (57, 2), (57, 3), (58, 11), (9, 1), (9, 2), (9, 3)] [3, 4, 5, 6, 7, 8, 11, 12, 13, 14, 15, 16, 17, 18, 19, 20, 23, 24, 25, 26, 27, 28, 29, 33, 34, 35, 36, 41, 42, 43, 44, 45, 46, 47, 48, 50, 53, 54, 55, 56] σ σ' := f_F_open_0 h
set_option maxHeartbeats 4000000 in
theorem f_F_find_0 {x1 : Int64} {σ σ' : am_S} {r : (Option Int32)} (h : g_F_find x1 σ = some (r, σ')) : FR [(58, 11)] [59, 60, 61, 62, 63, 64] σ σ' := by
  unfold g_F_find at h
  by_cases c3 : (σ.1.1 0 11) = 0
  · rw [if_pos c3] at h
    exact fr_lf fr_rf h
  · rw [if_neg c3] at h
    obtain ⟨v7, σ7, e7, h⟩ := am_bd_some h
    have f7 : FR [(58, 11)] [59, 60, 61, 62, 63, 64] σ σ7 := f_Fr_build e7
    exact fr_lf f7 h
theorem f_F_find {x1 : Int64} {σ σ' : am_S} {r : (Option Int32)} (h : g_F_find x1 σ = some (r, σ')) : FR [(58, 11)] [59, 60, 61, 62, 63, 64] σ σ' := f_F_find_0 h
