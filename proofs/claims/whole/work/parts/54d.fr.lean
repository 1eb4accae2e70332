set_option maxHeartbeats 4000000 in
theorem f_Ra_add_0 {x1 : Int64} {x3 : Int64} {σ σ' : am_S} {r : Int32} (h : g_Ra_add x1 x3 σ = some (r, σ')) : FR [(32, 4)] [33, 34] σ σ' := by
  unfold g_Ra_add at h
  by_cases c4 : (σ.1.1 32 4) = 300
  · rw [if_pos c4] at h
    exact fr_lf fr_rf h
  · rw [if_neg c4] at h
    obtain ⟨_, h⟩ := gd_some h
    obtain ⟨_, h⟩ := gd_some h
    exact fr_lf (fr_fi (fr_al (fr_al fr_rf (List.mem_of_getElem? (i := 0) rfl)) (List.mem_of_getElem? (i := 1) rfl)) (List.mem_of_getElem? (i := 0) rfl)) h
theorem f_Ra_add {x1 : Int64} {x3 : Int64} {σ σ' : am_S} {r : Int32} (h : g_Ra_add x1 x3 σ = some (r, σ')) : FR [(32, 4)] [33, 34] σ σ' := f_Ra_add_0 h
set_option maxHeartbeats 4000000 in
theorem f_Ra_hold_49 {x1 : Int32} {x2 : Int64} {x4 : Int32} {σ σ' : am_S} {r : Int32} {go : Int32 → Int64 → Int32 → am_S → Option (Int32 × am_S)} (hgo : ∀ {x1 : Int32} {x2 : Int64} {x4 : Int32} {σ σ' : am_S} {r : Int32}, go x1 x2 x4 σ = some (r, σ') → FR [] [] σ σ') (h : g_Ra_hold_49 go x1 x2 x4 σ = some (r, σ')) : FR [] [] σ σ' := by
  unfold g_Ra_hold_49 at h
  exact hgo h
set_option maxHeartbeats 4000000 in
theorem f_Ra_hold_8 : ∀ (n : Nat) {x1 : Int32} {x2 : Int64} {x4 : Int32} {σ σ' : am_S} {r : Int32} (h : g_Ra_hold_8 n x1 x2 x4 σ = some (r, σ')), FR [] [] σ σ' := by
  intro n
  induction n with
  | zero =>
    intro x1 x2 x4 σ σ' r h
    cases h
  | succ n ih =>
  intro x1 x2 x4 σ σ' r h
  unfold g_Ra_hold_8 at h
  obtain ⟨_, h⟩ := gd_some h
  by_cases c6 : x4 < (σ.2.1 36 x1.toNatClampNeg)
  · rw [if_pos c6] at h
    obtain ⟨_, h⟩ := gd_some h
    obtain ⟨v12, σ12, e12, h⟩ := am_bd_some h
    have f12 : FR [] [] σ σ12 := fr_up (f_F_isBelow e12) (fun _ h9 => (by cases h9)) (fun _ h9 => (by cases h9))
    by_cases c13 : v12 = 0
    · rw [if_pos c13] at h
      obtain ⟨_, h⟩ := gd_some h
      obtain ⟨v19, σ19, e19, h⟩ := am_bd_some h
      have f19 : FR [] [] σ σ19 := fr_tr f12 (fr_up (f_F_isBelow e19) (fun _ h9 => (by cases h9)) (fun _ h9 => (by cases h9)))
      by_cases c20 : v19 = 0
      · rw [if_pos c20] at h
        exact fr_tr f19 (f_Ra_hold_49 (fun h => ih h) h)
      · rw [if_neg c20] at h
        exact fr_lf f19 h
    · rw [if_neg c13] at h
      exact fr_tr f12 (f_Ra_hold_49 (fun h => ih h) h)
  · rw [if_neg c6] at h
    exact fr_lf fr_rf h
set_option maxHeartbeats 4000000 in
theorem f_Ra_hold_0 {x1 : Int32} {x2 : Int64} {σ σ' : am_S} {r : Int32} (h : g_Ra_hold x1 x2 σ = some (r, σ')) : FR [] [] σ σ' := by
  unfold g_Ra_hold at h
  obtain ⟨_, h⟩ := gd_some h
  exact f_Ra_hold_8 4000 h
theorem f_Ra_hold {x1 : Int32} {x2 : Int64} {σ σ' : am_S} {r : Int32} (h : g_Ra_hold x1 x2 σ = some (r, σ')) : FR [] [] σ σ' := f_Ra_hold_0 h
set_option maxHeartbeats 4000000 in
theorem f_Va_wrong_0 {σ σ' : am_S} {r : Int64} (h : g_Va_wrong σ = some (r, σ')) : FR [(37, 6)] [] σ σ' := by
  unfold g_Va_wrong at h
  exact fr_lf (fr_fi fr_rf (List.mem_of_getElem? (i := 0) rfl)) h
theorem f_Va_wrong {σ σ' : am_S} {r : Int64} (h : g_Va_wrong σ = some (r, σ')) : FR [(37, 6)] [] σ σ' := f_Va_wrong_0 h
set_option maxHeartbeats 4000000 in
theorem f_Va_textAt_27 {y0 : Int64} {σ σ' : am_S} {r : Int64} (h : g_Va_textAt_27 y0 σ = some (r, σ')) : FR [(37, 6), (9, 1), (9, 2), (9, 3)] [] σ σ' := by
  unfold g_Va_textAt_27 at h
  exact fr_lf fr_rf h
set_option maxHeartbeats 4000000 in
theorem f_Va_textAt_0 {x1 : Int32} {x2 : Int64} {σ σ' : am_S} {r : Int64} (h : g_Va_textAt x1 x2 σ = some (r, σ')) : FR [(37, 6), (9, 1), (9, 2), (9, 3)] [] σ σ' := by
  unfold g_Va_textAt at h
  obtain ⟨v5, σ5, e5, h⟩ := am_bd_some h
  have f5 : FR [(37, 6), (9, 1), (9, 2), (9, 3)] [] σ σ5 := fr_up (f_Se_textAt e5) (by decide) (fun _ h9 => h9)
  by_cases c9 : v5 = (-1)
  · rw [if_pos c9] at h
    obtain ⟨v11, σ11, e11, h⟩ := am_bd_some h
    have f11 : FR [(37, 6), (9, 1), (9, 2), (9, 3)] [] σ σ11 := fr_tr f5 (fr_up (f_Va_wrong e11) (by decide) (fun _ h9 => h9))
    exact fr_tr f11 (f_Va_textAt_27 h)
  · rw [if_neg c9] at h
    exact fr_tr f5 (f_Va_textAt_27 h)
theorem f_Va_textAt {x1 : Int32} {x2 : Int64} {σ σ' : am_S} {r : Int64} (h : g_Va_textAt x1 x2 σ = some (r, σ')) : FR [(37, 6), (9, 1), (9, 2), (9, 3)] [] σ σ' := f_Va_textAt_0 h
set_option maxHeartbeats 4000000 in
theorem f_Va_baseOf_0 {x1 : Int32} {x2 : Int32} {σ σ' : am_S} {r : Int64} (h : g_Va_baseOf x1 x2 σ = some (r, σ')) : FR [] [] σ σ' := by
  unfold g_Va_baseOf at h
  obtain ⟨_, h⟩ := gd_some h
  exact fr_lf fr_rf h
theorem f_Va_baseOf {x1 : Int32} {x2 : Int32} {σ σ' : am_S} {r : Int64} (h : g_Va_baseOf x1 x2 σ = some (r, σ')) : FR [] [] σ σ' := f_Va_baseOf_0 h
set_option maxHeartbeats 4000000 in
theorem f_Va_numberAt_16 {σ σ' : am_S} {r : Int64} (h : g_Va_numberAt_16 σ = some (r, σ')) : FR [(37, 6), (39, 1), (39, 2), (39, 3)] [] σ σ' := by
  unfold g_Va_numberAt_16 at h
  obtain ⟨v2, σ2, e2, h⟩ := am_bd_some h
  have f2 : FR [(37, 6), (39, 1), (39, 2), (39, 3)] [] σ σ2 := fr_up (f_Va_wrong e2) (by decide) (fun _ h9 => h9)
  exact fr_lf f2 h
set_option maxHeartbeats 4000000 in
theorem f_Va_numberAt_75 {x7 : Int64} {y0 : Int32} {σ σ' : am_S} {r : Int64} (h : g_Va_numberAt_75 x7 y0 σ = some (r, σ')) : FR [(37, 6), (39, 1), (39, 2), (39, 3)] [] σ σ' := by
  unfold g_Va_numberAt_75 at h
  obtain ⟨_, h⟩ := gd_some h
  exact fr_lf (fr_fi fr_rf (List.mem_of_getElem? (i := 0) rfl)) h
set_option maxHeartbeats 4000000 in
theorem f_Va_numberAt_70 {x7 : Int64} {σ σ' : am_S} {r : Int64} (h : g_Va_numberAt_70 x7 σ = some (r, σ')) : FR [(37, 6), (39, 1), (39, 2), (39, 3)] [] σ σ' := by
  unfold g_Va_numberAt_70 at h
  exact f_Va_numberAt_75 h
set_option maxHeartbeats 4000000 in
theorem f_Va_numberAt_0 {x1 : Int32} {x2 : Int64} {x4 : Int64} {x6 : Int32} {σ σ' : am_S} {r : Int64} (h : g_Va_numberAt x1 x2 x4 x6 σ = some (r, σ')) : FR [(37, 6), (39, 1), (39, 2), (39, 3)] [] σ σ' := by
  unfold g_Va_numberAt at h
  by_cases c4 : (lg_cmp x4 0) < 0
  · rw [if_pos c4] at h
    exact f_Va_numberAt_16 h
  · rw [if_neg c4] at h
    by_cases c8 : 0 < (lg_cmp x4 3000)
    · rw [if_pos c8] at h
      exact f_Va_numberAt_16 h
    · rw [if_neg c8] at h
      obtain ⟨v20, σ20, e20, h⟩ := am_bd_some h
      have f20 : FR [(37, 6), (39, 1), (39, 2), (39, 3)] [] σ σ20 := fr_up (f_Se_point e20) (by decide) (fun _ h9 => h9)
      obtain ⟨v24, σ24, e24, h⟩ := am_bd_some h
      have f24 : FR [(37, 6), (39, 1), (39, 2), (39, 3)] [] σ σ24 := fr_tr f20 (fr_up (f_Cu_number e24) (by decide) (fun _ h9 => h9))
      by_cases c29 : (σ24.1.1 37 6) = 0
      · rw [if_pos c29] at h
        by_cases c33 : (σ24.1.1 39 3) = 0
        · rw [if_pos c33] at h
          exact fr_tr f24 (f_Va_numberAt_75 h)
        · rw [if_neg c33] at h
          exact fr_tr f24 (f_Va_numberAt_70 h)
      · rw [if_neg c29] at h
        exact fr_tr f24 (f_Va_numberAt_70 h)
theorem f_Va_numberAt {x1 : Int32} {x2 : Int64} {x4 : Int64} {x6 : Int32} {σ σ' : am_S} {r : Int64} (h : g_Va_numberAt x1 x2 x4 x6 σ = some (r, σ')) : FR [(37, 6), (39, 1), (39, 2), (39, 3)] [] σ σ' := f_Va_numberAt_0 h
set_option maxHeartbeats 4000000 in
theorem f_Va_text_0 {x1 : Int32} {x2 : Int32} {x3 : Int64} {σ σ' : am_S} {r : Int64} (h : g_Va_text x1 x2 x3 σ = some (r, σ')) : FR [(37, 6), (39, 1), (39, 2), (39, 3), (9, 1), (9, 2), (9, 3)] [] σ σ' := by
  unfold g_Va_text at h
  by_cases d2_0 : x2 = 8
  · rw [if_pos d2_0] at h
    exact fr_lf fr_rf h
  rw [if_neg d2_0] at h
  by_cases d2_1 : x2 = 14
  · rw [if_pos d2_1] at h
    obtain ⟨v6, σ6, e6, h⟩ := am_bd_some h
    have f6 : FR [(37, 6), (39, 1), (39, 2), (39, 3), (9, 1), (9, 2), (9, 3)] [] σ σ6 := fr_up (f_Va_textAt e6) (by decide) (fun _ h9 => h9)
    exact fr_lf f6 h
  rw [if_neg d2_1] at h
  by_cases d2_2 : x2 = 31
  · rw [if_pos d2_2] at h
    obtain ⟨v6, σ6, e6, h⟩ := am_bd_some h
    have f6 : FR [(37, 6), (39, 1), (39, 2), (39, 3), (9, 1), (9, 2), (9, 3)] [] σ σ6 := fr_up (f_Va_textAt e6) (by decide) (fun _ h9 => h9)
    exact fr_lf f6 h
  rw [if_neg d2_2] at h
  by_cases d2_3 : x2 = 37
  · rw [if_pos d2_3] at h
    obtain ⟨v10, σ10, e10, h⟩ := am_bd_some h
    have f10 : FR [(37, 6), (39, 1), (39, 2), (39, 3), (9, 1), (9, 2), (9, 3)] [] σ σ10 := fr_up (f_Va_baseOf e10) (fun _ h9 => (by cases h9)) (fun _ h9 => (by cases h9))
    obtain ⟨v13, σ13, e13, h⟩ := am_bd_some h
    have f13 : FR [(37, 6), (39, 1), (39, 2), (39, 3), (9, 1), (9, 2), (9, 3)] [] σ σ13 := fr_tr f10 (fr_up (f_Va_numberAt e13) (by decide) (fun _ h9 => h9))
    obtain ⟨v14, σ14, e14, h⟩ := am_bd_some h
    have f14 : FR [(37, 6), (39, 1), (39, 2), (39, 3), (9, 1), (9, 2), (9, 3)] [] σ σ14 := fr_tr f13 (fr_up (f_Va_textAt e14) (by decide) (fun _ h9 => h9))
    exact fr_lf f14 h
  rw [if_neg d2_3] at h
  obtain ⟨v4, σ4, e4, h⟩ := am_bd_some h
  have f4 : FR [(37, 6), (39, 1), (39, 2), (39, 3), (9, 1), (9, 2), (9, 3)] [] σ σ4 := fr_up (f_Va_wrong e4) (by decide) (fun _ h9 => h9)
  exact fr_lf f4 h
theorem f_Va_text {x1 : Int32} {x2 : Int32} {x3 : Int64} {σ σ' : am_S} {r : Int64} (h : g_Va_text x1 x2 x3 σ = some (r, σ')) : FR [(37, 6), (39, 1), (39, 2), (39, 3), (9, 1), (9, 2), (9, 3)] [] σ σ' := f_Va_text_0 h
set_option maxHeartbeats 4000000 in
theorem f_Va_addressAt_0 {x1 : Int32} {x2 : Int64} {σ σ' : am_S} {r : Int64} (h : g_Va_addressAt x1 x2 σ = some (r, σ')) : FR [(37, 6), (39, 1), (39, 2), (39, 3)] [] σ σ' := by
  unfold g_Va_addressAt at h
  obtain ⟨v6, σ6, e6, h⟩ := am_bd_some h
  have f6 : FR [(37, 6), (39, 1), (39, 2), (39, 3)] [] σ σ6 := fr_up (f_Va_baseOf e6) (fun _ h9 => (by cases h9)) (fun _ h9 => (by cases h9))
  obtain ⟨v9, σ9, e9, h⟩ := am_bd_some h
  have f9 : FR [(37, 6), (39, 1), (39, 2), (39, 3)] [] σ σ9 := fr_tr f6 (f_Va_numberAt e9)
  exact fr_lf f9 h
theorem f_Va_addressAt {x1 : Int32} {x2 : Int64} {σ σ' : am_S} {r : Int64} (h : g_Va_addressAt x1 x2 σ = some (r, σ')) : FR [(37, 6), (39, 1), (39, 2), (39, 3)] [] σ σ' := f_Va_addressAt_0 h
set_option maxHeartbeats 4000000 in
theorem f_Va_address_26 {y0 : Int64} {σ σ' : am_S} {r : Int64} (h : g_Va_address_26 y0 σ = some (r, σ')) : FR [(37, 6), (39, 1), (39, 2), (39, 3)] [] σ σ' := by
  unfold g_Va_address_26 at h
  exact fr_lf fr_rf h
set_option maxHeartbeats 4000000 in
theorem f_Va_address_0 {x1 : Int32} {x2 : Int32} {x3 : Int64} {σ σ' : am_S} {r : Int64} (h : g_Va_address x1 x2 x3 σ = some (r, σ')) : FR [(37, 6), (39, 1), (39, 2), (39, 3)] [] σ σ' := by
  unfold g_Va_address at h
  by_cases c3 : x2 = 1
  · rw [if_pos c3] at h
    exact fr_lf fr_rf h
  · rw [if_neg c3] at h
    by_cases c6 : x2 = 27
    · rw [if_pos c6] at h
      obtain ⟨v10, σ10, e10, h⟩ := am_bd_some h
      have f10 : FR [(37, 6), (39, 1), (39, 2), (39, 3)] [] σ σ10 := f_Va_addressAt e10
      exact fr_tr f10 (f_Va_address_26 h)
    · rw [if_neg c6] at h
      obtain ⟨v8, σ8, e8, h⟩ := am_bd_some h
      have f8 : FR [(37, 6), (39, 1), (39, 2), (39, 3)] [] σ σ8 := fr_up (f_Va_wrong e8) (by decide) (fun _ h9 => h9)
      exact fr_tr f8 (f_Va_address_26 h)
theorem f_Va_address {x1 : Int32} {x2 : Int32} {x3 : Int64} {σ σ' : am_S} {r : Int64} (h : g_Va_address x1 x2 x3 σ = some (r, σ')) : FR [(37, 6), (39, 1), (39, 2), (39, 3)] [] σ σ' := f_Va_address_0 h
set_option maxHeartbeats 4000000 in
theorem f_Va_lowOf_25 {y0 : Int64} {σ σ' : am_S} {r : Int64} (h : g_Va_lowOf_25 y0 σ = some (r, σ')) : FR [] [] σ σ' := by
  unfold g_Va_lowOf_25 at h
  exact fr_lf fr_rf h
set_option maxHeartbeats 4000000 in
theorem f_Va_lowOf_0 {x1 : Int32} {σ σ' : am_S} {r : Int64} (h : g_Va_lowOf x1 σ = some (r, σ')) : FR [] [] σ σ' := by
  unfold g_Va_lowOf at h
  obtain ⟨v5, σ5, e5, h⟩ := am_bd_some h
  have f5 : FR [] [] σ σ5 := fr_up (f_En_has e5) (fun _ h9 => (by cases h9)) (fun _ h9 => (by cases h9))
  by_cases c6 : v5 = 0
  · rw [if_pos c6] at h
    exact fr_tr f5 (f_Va_lowOf_25 h)
  · rw [if_neg c6] at h
    obtain ⟨v11, σ11, e11, h⟩ := am_bd_some h
    have f11 : FR [] [] σ σ11 := fr_tr f5 (fr_up (f_En_valueOf e11) (fun _ h9 => (by cases h9)) (fun _ h9 => (by cases h9)))
    exact fr_tr f11 (f_Va_lowOf_25 h)
theorem f_Va_lowOf {x1 : Int32} {σ σ' : am_S} {r : Int64} (h : g_Va_lowOf x1 σ = some (r, σ')) : FR [] [] σ σ' := f_Va_lowOf_0 h
set_option maxHeartbeats 4000000 in
theorem f_Va_listPlace_42 {y0 : Int64} {σ σ' : am_S} {r : Int64} (h : g_Va_listPlace_42 y0 σ = some (r, σ')) : FR [(37, 6), (39, 1), (39, 2), (39, 3)] [] σ σ' := by
  unfold g_Va_listPlace_42 at h
  exact fr_lf fr_rf h
set_option maxHeartbeats 4000000 in
theorem f_Va_listPlace_0 {x1 : Int32} {x2 : Int32} {x3 : Int64} {σ σ' : am_S} {r : Int64} (h : g_Va_listPlace x1 x2 x3 σ = some (r, σ')) : FR [(37, 6), (39, 1), (39, 2), (39, 3)] [] σ σ' := by
  unfold g_Va_listPlace at h
  by_cases c3 : x2 = 23
  · rw [if_pos c3] at h
    exact fr_lf fr_rf h
  · rw [if_neg c3] at h
    obtain ⟨v7, σ7, e7, h⟩ := am_bd_some h
    have f7 : FR [(37, 6), (39, 1), (39, 2), (39, 3)] [] σ σ7 := fr_up (f_Va_baseOf e7) (fun _ h9 => (by cases h9)) (fun _ h9 => (by cases h9))
    by_cases c11 : x2 = 35
    · rw [if_pos c11] at h
      obtain ⟨v18, σ18, e18, h⟩ := am_bd_some h
      have f18 : FR [(37, 6), (39, 1), (39, 2), (39, 3)] [] σ σ18 := fr_tr f7 (f_Va_numberAt e18)
      exact fr_tr f18 (f_Va_listPlace_42 h)
    · rw [if_neg c11] at h
      obtain ⟨v13, σ13, e13, h⟩ := am_bd_some h
      have f13 : FR [(37, 6), (39, 1), (39, 2), (39, 3)] [] σ σ13 := fr_tr f7 (fr_up (f_Va_wrong e13) (by decide) (fun _ h9 => h9))
      exact fr_tr f13 (f_Va_listPlace_42 h)
theorem f_Va_listPlace {x1 : Int32} {x2 : Int32} {x3 : Int64} {σ σ' : am_S} {r : Int64} (h : g_Va_listPlace x1 x2 x3 σ = some (r, σ')) : FR [(37, 6), (39, 1), (39, 2), (39, 3)] [] σ σ' := f_Va_listPlace_0 h
set_option maxHeartbeats 4000000 in
theorem f_Va_origin_124 {x1 : Int32} {x3 : Int64} {x5 : Int32} {σ σ' : am_S} {r : Int64} {go : Int32 → Int64 → Int32 → am_S → Option (Int64 × am_S)} (hgo : ∀ {x1 : Int32} {x3 : Int64} {x5 : Int32} {σ σ' : am_S} {r : Int64}, go x1 x3 x5 σ = some (r, σ') → FR [(37, 6)] [] σ σ') (h : g_Va_origin_124 go x1 x3 x5 σ = some (r, σ')) : FR [(37, 6)] [] σ σ' := by
  unfold g_Va_origin_124 at h
  exact hgo h
set_option maxHeartbeats 4000000 in
theorem f_Va_origin_87 {x1 : Int32} {x3 : Int64} {x5 : Int32} {y0 : Int32} {σ σ' : am_S} {r : Int64} {go : Int32 → Int64 → Int32 → am_S → Option (Int64 × am_S)} (hgo : ∀ {x1 : Int32} {x3 : Int64} {x5 : Int32} {σ σ' : am_S} {r : Int64}, go x1 x3 x5 σ = some (r, σ') → FR [(37, 6)] [] σ σ') (h : g_Va_origin_87 go x1 x3 x5 y0 σ = some (r, σ')) : FR [(37, 6)] [] σ σ' := by
  unfold g_Va_origin_87 at h
  by_cases c3 : y0 = 0
  · rw [if_pos c3] at h
    exact f_Va_origin_124 hgo h
  · rw [if_neg c3] at h
    obtain ⟨_, h⟩ := gd_some h
    obtain ⟨_, h⟩ := gd_some h
    by_cases c18 : (lg_cmp (((σ.2.1 14 x5.toNatClampNeg) - (σ.2.1 17 x1.toNatClampNeg)).toInt64) x3) = 0
    · rw [if_pos c18] at h
      exact fr_lf fr_rf h
    · rw [if_neg c18] at h
      exact f_Va_origin_124 hgo h
set_option maxHeartbeats 4000000 in
theorem f_Va_origin_82 {x1 : Int32} {x3 : Int64} {x5 : Int32} {σ σ' : am_S} {r : Int64} {go : Int32 → Int64 → Int32 → am_S → Option (Int64 × am_S)} (hgo : ∀ {x1 : Int32} {x3 : Int64} {x5 : Int32} {σ σ' : am_S} {r : Int64}, go x1 x3 x5 σ = some (r, σ') → FR [(37, 6)] [] σ σ') (h : g_Va_origin_82 go x1 x3 x5 σ = some (r, σ')) : FR [(37, 6)] [] σ σ' := by
  unfold g_Va_origin_82 at h
  exact f_Va_origin_87 hgo h
set_option maxHeartbeats 4000000 in
theorem f_Va_origin_130 {σ σ' : am_S} {r : Int64} (h : g_Va_origin_130 σ = some (r, σ')) : FR [(37, 6)] [] σ σ' := by
  unfold g_Va_origin_130 at h
  obtain ⟨v2, σ2, e2, h⟩ := am_bd_some h
  have f2 : FR [(37, 6)] [] σ σ2 := f_Va_wrong e2
  exact fr_lf f2 h
set_option maxHeartbeats 4000000 in
theorem f_Va_origin_22 : ∀ (n : Nat) {x1 : Int32} {x3 : Int64} {x5 : Int32} {σ σ' : am_S} {r : Int64} (h : g_Va_origin_22 n x1 x3 x5 σ = some (r, σ')), FR [(37, 6)] [] σ σ' := by
  intro n
  induction n with
  | zero =>
    intro x1 x3 x5 σ σ' r h
    cases h
  | succ n ih =>
  intro x1 x3 x5 σ σ' r h
  unfold g_Va_origin_22 at h
  by_cases c5 : x5 < (σ.1.1 10 10)
  · rw [if_pos c5] at h
    obtain ⟨_, h⟩ := gd_some h
    by_cases c12 : (σ.2.1 13 x5.toNatClampNeg) = x1
    · rw [if_pos c12] at h
      obtain ⟨_, h⟩ := gd_some h
      by_cases c20 : (lg_cmp (σ.2.2 11 x5.toNatClampNeg) 46) = 0
      · rw [if_pos c20] at h
        exact f_Va_origin_82 (fun h => ih h) h
      · rw [if_neg c20] at h
        obtain ⟨_, h⟩ := gd_some h
        by_cases c28 : (lg_cmp (σ.2.2 11 x5.toNatClampNeg) 29) = 0
        · rw [if_pos c28] at h
          exact f_Va_origin_82 (fun h => ih h) h
        · rw [if_neg c28] at h
          exact f_Va_origin_87 (fun h => ih h) h
    · rw [if_neg c12] at h
      exact f_Va_origin_130 h
  · rw [if_neg c5] at h
    exact f_Va_origin_130 h
set_option maxHeartbeats 4000000 in
theorem f_Va_origin_0 {x1 : Int32} {x2 : Int32} {x3 : Int64} {σ σ' : am_S} {r : Int64} (h : g_Va_origin x1 x2 x3 σ = some (r, σ')) : FR [(37, 6)] [] σ σ' := by
  unfold g_Va_origin at h
  by_cases c3 : x2 = 19
  · rw [if_pos c3] at h
    obtain ⟨_, h⟩ := gd_some h
    exact f_Va_origin_22 4000 h
  · rw [if_neg c3] at h
    obtain ⟨v5, σ5, e5, h⟩ := am_bd_some h
    have f5 : FR [(37, 6)] [] σ σ5 := f_Va_wrong e5
    exact fr_lf f5 h
theorem f_Va_origin {x1 : Int32} {x2 : Int32} {x3 : Int64} {σ σ' : am_S} {r : Int64} (h : g_Va_origin x1 x2 x3 σ = some (r, σ')) : FR [(37, 6)] [] σ σ' := f_Va_origin_0 h
set_option maxHeartbeats 4000000 in
theorem f_Va_resolved_96 {y0 : Int64} {σ σ' : am_S} {r : Int64} (h : g_Va_resolved_96 y0 σ = some (r, σ')) : FR [(37, 6), (39, 1), (39, 2), (39, 3), (9, 1), (9, 2), (9, 3)] [] σ σ' := by
  unfold g_Va_resolved_96 at h
  exact fr_lf fr_rf h
set_option maxHeartbeats 4000000 in
theorem f_Va_resolved_134 {y0 : Int64} {σ σ' : am_S} {r : Int64} (h : g_Va_resolved_134 y0 σ = some (r, σ')) : FR [(37, 6), (39, 1), (39, 2), (39, 3), (9, 1), (9, 2), (9, 3)] [] σ σ' := by
  unfold g_Va_resolved_134 at h
  exact fr_lf fr_rf h
set_option maxHeartbeats 4000000 in
theorem f_Va_resolved_0 {x1 : Int32} {x2 : Int32} {x3 : Int32} {x4 : Int64} {σ σ' : am_S} {r : Int64} (h : g_Va_resolved x1 x2 x3 x4 σ = some (r, σ')) : FR [(37, 6), (39, 1), (39, 2), (39, 3), (9, 1), (9, 2), (9, 3)] [] σ σ' := by
  unfold g_Va_resolved at h
  obtain ⟨_, h⟩ := gd_some h
  by_cases d8_0 : x2 = 0
  · rw [if_pos d8_0] at h
    obtain ⟨v13, σ13, e13, h⟩ := am_bd_some h
    have f13 : FR [(37, 6), (39, 1), (39, 2), (39, 3), (9, 1), (9, 2), (9, 3)] [] σ σ13 := f_Va_text e13
    exact fr_lf f13 h
  rw [if_neg d8_0] at h
  by_cases d8_1 : x2 = 1
  · rw [if_pos d8_1] at h
    obtain ⟨v13, σ13, e13, h⟩ := am_bd_some h
    have f13 : FR [(37, 6), (39, 1), (39, 2), (39, 3), (9, 1), (9, 2), (9, 3)] [] σ σ13 := fr_up (f_Va_address e13) (by decide) (fun _ h9 => h9)
    exact fr_lf f13 h
  rw [if_neg d8_1] at h
  by_cases d8_2 : x2 = 2
  · rw [if_pos d8_2] at h
    obtain ⟨v11, σ11, e11, h⟩ := am_bd_some h
    have f11 : FR [(37, 6), (39, 1), (39, 2), (39, 3), (9, 1), (9, 2), (9, 3)] [] σ σ11 := fr_up (f_Ab_isConstantForm e11) (fun _ h9 => (by cases h9)) (fun _ h9 => (by cases h9))
    by_cases c12 : v11 = 0
    · rw [if_pos c12] at h
      obtain ⟨v17, σ17, e17, h⟩ := am_bd_some h
      have f17 : FR [(37, 6), (39, 1), (39, 2), (39, 3), (9, 1), (9, 2), (9, 3)] [] σ σ17 := fr_tr f11 (fr_up (f_Va_address e17) (by decide) (fun _ h9 => h9))
      exact fr_tr f17 (f_Va_resolved_96 h)
    · rw [if_neg c12] at h
      obtain ⟨v15, σ15, e15, h⟩ := am_bd_some h
      have f15 : FR [(37, 6), (39, 1), (39, 2), (39, 3), (9, 1), (9, 2), (9, 3)] [] σ σ15 := fr_tr f11 (fr_up (f_Va_lowOf e15) (fun _ h9 => (by cases h9)) (fun _ h9 => (by cases h9)))
      exact fr_tr f15 (f_Va_resolved_96 h)
  rw [if_neg d8_2] at h
  by_cases d8_3 : x2 = 3
  · rw [if_pos d8_3] at h
    obtain ⟨v13, σ13, e13, h⟩ := am_bd_some h
    have f13 : FR [(37, 6), (39, 1), (39, 2), (39, 3), (9, 1), (9, 2), (9, 3)] [] σ σ13 := fr_up (f_Va_listPlace e13) (by decide) (fun _ h9 => h9)
    exact fr_lf f13 h
  rw [if_neg d8_3] at h
  by_cases d8_4 : x2 = 4
  · rw [if_pos d8_4] at h
    obtain ⟨v13, σ13, e13, h⟩ := am_bd_some h
    have f13 : FR [(37, 6), (39, 1), (39, 2), (39, 3), (9, 1), (9, 2), (9, 3)] [] σ σ13 := fr_up (f_Va_origin e13) (by decide) (fun _ h9 => h9)
    exact fr_lf f13 h
  rw [if_neg d8_4] at h
  obtain ⟨v11, σ11, e11, h⟩ := am_bd_some h
  have f11 : FR [(37, 6), (39, 1), (39, 2), (39, 3), (9, 1), (9, 2), (9, 3)] [] σ σ11 := fr_up (f_Ab_isConstantForm e11) (fun _ h9 => (by cases h9)) (fun _ h9 => (by cases h9))
  by_cases c12 : v11 = 0
  · rw [if_pos c12] at h
    obtain ⟨v14, σ14, e14, h⟩ := am_bd_some h
    have f14 : FR [(37, 6), (39, 1), (39, 2), (39, 3), (9, 1), (9, 2), (9, 3)] [] σ σ14 := fr_tr f11 (fr_up (f_Va_wrong e14) (by decide) (fun _ h9 => h9))
    exact fr_tr f14 (f_Va_resolved_134 h)
  · rw [if_neg c12] at h
    exact fr_tr f11 (f_Va_resolved_134 h)
theorem f_Va_resolved {x1 : Int32} {x2 : Int32} {x3 : Int32} {x4 : Int64} {σ σ' : am_S} {r : Int64} (h : g_Va_resolved x1 x2 x3 x4 σ = some (r, σ')) : FR [(37, 6), (39, 1), (39, 2), (39, 3), (9, 1), (9, 2), (9, 3)] [] σ σ' := f_Va_resolved_0 h
set_option maxHeartbeats 4000000 in
theorem f_Va_resolve_60 {x1 : Int32} {x2 : Int32} {σ σ' : am_S} {r : Unit} {go : Int32 → Int32 → am_S → Option (Unit × am_S)} (hgo : ∀ {x1 : Int32} {x2 : Int32} {σ σ' : am_S} {r : Unit}, go x1 x2 σ = some (r, σ') → FR [(37, 6), (39, 1), (39, 2), (39, 3), (9, 1), (9, 2), (9, 3)] [16] σ σ') (h : g_Va_resolve_60 go x1 x2 σ = some (r, σ')) : FR [(37, 6), (39, 1), (39, 2), (39, 3), (9, 1), (9, 2), (9, 3)] [16] σ σ' := by
  unfold g_Va_resolve_60 at h
  exact hgo h
set_option maxHeartbeats 4000000 in
theorem f_Va_resolve_2 : ∀ (n : Nat) {x1 : Int32} {x2 : Int32} {σ σ' : am_S} {r : Unit} (h : g_Va_resolve_2 n x1 x2 σ = some (r, σ')), FR [(37, 6), (39, 1), (39, 2), (39, 3), (9, 1), (9, 2), (9, 3)] [16] σ σ' := by
  intro n
  induction n with
  | zero =>
    intro x1 x2 σ σ' r h
    cases h
  | succ n ih =>
  intro x1 x2 σ σ' r h
  unfold g_Va_resolve_2 at h
  by_cases c3 : x2 < 7
  · rw [if_pos c3] at h
    obtain ⟨v8, σ8, e8, h⟩ := am_bd_some h
    have f8 : FR [(37, 6), (39, 1), (39, 2), (39, 3), (9, 1), (9, 2), (9, 3)] [16] σ σ8 := fr_up (f_En_has e8) (fun _ h9 => (by cases h9)) (fun _ h9 => (by cases h9))
    by_cases c9 : v8 = 0
    · rw [if_pos c9] at h
      exact fr_tr f8 (f_Va_resolve_60 (fun h => ih h) h)
    · rw [if_neg c9] at h
      obtain ⟨_, h⟩ := gd_some h
      obtain ⟨_, h⟩ := gd_some h
      obtain ⟨v33, σ33, e33, h⟩ := am_bd_some h
      have f33 : FR [(37, 6), (39, 1), (39, 2), (39, 3), (9, 1), (9, 2), (9, 3)] [16] σ σ33 := fr_tr f8 (fr_up (f_Va_resolved e33) (fun _ h9 => h9) (by decide))
      obtain ⟨_, h⟩ := gd_some h
      exact fr_tr (fr_al f33 (List.mem_of_getElem? (i := 0) rfl)) (f_Va_resolve_60 (fun h => ih h) h)
  · rw [if_neg c3] at h
    exact fr_lf fr_rf h
set_option maxHeartbeats 4000000 in
theorem f_Va_resolve_0 {x1 : Int32} {σ σ' : am_S} {r : Unit} (h : g_Va_resolve x1 σ = some (r, σ')) : FR [(37, 6), (39, 1), (39, 2), (39, 3), (9, 1), (9, 2), (9, 3)] [16] σ σ' := by
  unfold g_Va_resolve at h
  exact f_Va_resolve_2 4000 h
theorem f_Va_resolve {x1 : Int32} {σ σ' : am_S} {r : Unit} (h : g_Va_resolve x1 σ = some (r, σ')) : FR [(37, 6), (39, 1), (39, 2), (39, 3), (9, 1), (9, 2), (9, 3)] [16] σ σ' := f_Va_resolve_0 h
set_option maxHeartbeats 4000000 in
theorem f_Va_addRange_17 {σ σ' : am_S} {r : Unit} (h : g_Va_addRange_17 σ = some (r, σ')) : FR [(32, 4), (37, 6)] [33, 34] σ σ' := by
  unfold g_Va_addRange_17 at h
  exact fr_lf fr_rf h
set_option maxHeartbeats 4000000 in
theorem f_Va_addRange_0 {x1 : Int64} {x3 : Int64} {σ σ' : am_S} {r : Unit} (h : g_Va_addRange x1 x3 σ = some (r, σ')) : FR [(32, 4), (37, 6)] [33, 34] σ σ' := by
  unfold g_Va_addRange at h
  obtain ⟨v5, σ5, e5, h⟩ := am_bd_some h
  have f5 : FR [(32, 4), (37, 6)] [33, 34] σ σ5 := fr_up (f_Ra_add e5) (by decide) (fun _ h9 => h9)
  by_cases c6 : v5 = 0
  · rw [if_pos c6] at h
    obtain ⟨v8, σ8, e8, h⟩ := am_bd_some h
    have f8 : FR [(32, 4), (37, 6)] [33, 34] σ σ8 := fr_tr f5 (fr_up (f_Va_wrong e8) (by decide) (by decide))
    exact fr_tr f8 (f_Va_addRange_17 h)
  · rw [if_neg c6] at h
    exact fr_tr f5 (f_Va_addRange_17 h)
theorem f_Va_addRange {x1 : Int64} {x3 : Int64} {σ σ' : am_S} {r : Unit} (h : g_Va_addRange x1 x3 σ = some (r, σ')) : FR [(32, 4), (37, 6)] [33, 34] σ σ' := f_Va_addRange_0 h
set_option maxHeartbeats 4000000 in
theorem f_Va_rangeEnd_45 {y0 : Int64} {σ σ' : am_S} {r : Int64} (h : g_Va_rangeEnd_45 y0 σ = some (r, σ')) : FR [(37, 6), (38, 1), (38, 3), (39, 1), (39, 2), (39, 3)] [] σ σ' := by
  unfold g_Va_rangeEnd_45 at h
  exact fr_lf fr_rf h
set_option maxHeartbeats 4000000 in
theorem f_Va_rangeEnd_0 {x1 : Int32} {x2 : Int32} {x3 : Int64} {σ σ' : am_S} {r : Int64} (h : g_Va_rangeEnd x1 x2 x3 σ = some (r, σ')) : FR [(37, 6), (38, 1), (38, 3), (39, 1), (39, 2), (39, 3)] [] σ σ' := by
  unfold g_Va_rangeEnd at h
  by_cases c3 : x2 = 2
  · rw [if_pos c3] at h
    obtain ⟨v8, σ8, e8, h⟩ := am_bd_some h
    have f8 : FR [(37, 6), (38, 1), (38, 3), (39, 1), (39, 2), (39, 3)] [] σ σ8 := fr_up (f_Cu_uleb e8) (by decide) (fun _ h9 => h9)
    obtain ⟨v9, σ9, e9, h⟩ := am_bd_some h
    have f9 : FR [(37, 6), (38, 1), (38, 3), (39, 1), (39, 2), (39, 3)] [] σ σ9 := fr_tr f8 (fr_up (f_Va_addressAt e9) (by decide) (fun _ h9 => h9))
    exact fr_lf f9 h
  · rw [if_neg c3] at h
    by_cases c6 : x2 = 6
    · rw [if_pos c6] at h
      obtain ⟨v10, σ10, e10, h⟩ := am_bd_some h
      have f10 : FR [(37, 6), (38, 1), (38, 3), (39, 1), (39, 2), (39, 3)] [] σ σ10 := fr_up (f_Cu_number e10) (by decide) (fun _ h9 => h9)
      exact fr_tr f10 (f_Va_rangeEnd_45 h)
    · rw [if_neg c6] at h
      obtain ⟨v10, σ10, e10, h⟩ := am_bd_some h
      have f10 : FR [(37, 6), (38, 1), (38, 3), (39, 1), (39, 2), (39, 3)] [] σ σ10 := fr_up (f_Cu_uleb e10) (by decide) (fun _ h9 => h9)
      exact fr_tr f10 (f_Va_rangeEnd_45 h)
theorem f_Va_rangeEnd {x1 : Int32} {x2 : Int32} {x3 : Int64} {σ σ' : am_S} {r : Int64} (h : g_Va_rangeEnd x1 x2 x3 σ = some (r, σ')) : FR [(37, 6), (38, 1), (38, 3), (39, 1), (39, 2), (39, 3)] [] σ σ' := f_Va_rangeEnd_0 h
set_option maxHeartbeats 4000000 in
theorem f_Va_readPiece_155 {σ σ' : am_S} {r : Unit} (h : g_Va_readPiece_155 σ = some (r, σ')) : FR [(32, 4), (37, 5), (37, 6), (38, 1), (38, 3), (39, 1), (39, 2), (39, 3)] [33, 34] σ σ' := by
  unfold g_Va_readPiece_155 at h
  exact fr_lf fr_rf h
set_option maxHeartbeats 4000000 in
theorem f_Va_readPiece_134 {x1 : Int32} {x2 : Int32} {y0 : Int64} {σ σ' : am_S} {r : Unit} (h : g_Va_readPiece_134 x1 x2 y0 σ = some (r, σ')) : FR [(32, 4), (37, 5), (37, 6), (38, 1), (38, 3), (39, 1), (39, 2), (39, 3)] [33, 34] σ σ' := by
  unfold g_Va_readPiece_134 at h
  obtain ⟨v8, σ8, e8, h⟩ := am_bd_some h
  have f8 : FR [(32, 4), (37, 5), (37, 6), (38, 1), (38, 3), (39, 1), (39, 2), (39, 3)] [33, 34] σ σ8 := fr_up (f_Va_rangeEnd e8) (by decide) (by decide)
  obtain ⟨v9, σ9, e9, h⟩ := am_bd_some h
  have f9 : FR [(32, 4), (37, 5), (37, 6), (38, 1), (38, 3), (39, 1), (39, 2), (39, 3)] [33, 34] σ σ9 := fr_tr f8 (fr_up (f_Va_addRange e9) (by decide) (fun _ h9 => h9))
  exact fr_tr f9 (f_Va_readPiece_155 h)
set_option maxHeartbeats 4000000 in
theorem f_Va_readPiece_105 {x1 : Int32} {x2 : Int32} {σ σ' : am_S} {r : Unit} (h : g_Va_readPiece_105 x1 x2 σ = some (r, σ')) : FR [(32, 4), (37, 5), (37, 6), (38, 1), (38, 3), (39, 1), (39, 2), (39, 3)] [33, 34] σ σ' := by
  unfold g_Va_readPiece_105 at h
  by_cases c3 : x2 < 4
  · rw [if_pos c3] at h
    obtain ⟨v8, σ8, e8, h⟩ := am_bd_some h
    have f8 : FR [(32, 4), (37, 5), (37, 6), (38, 1), (38, 3), (39, 1), (39, 2), (39, 3)] [33, 34] σ σ8 := fr_up (f_Cu_uleb e8) (by decide) (by decide)
    obtain ⟨v9, σ9, e9, h⟩ := am_bd_some h
    have f9 : FR [(32, 4), (37, 5), (37, 6), (38, 1), (38, 3), (39, 1), (39, 2), (39, 3)] [33, 34] σ σ9 := fr_tr f8 (fr_up (f_Va_addressAt e9) (by decide) (by decide))
    exact fr_tr f9 (f_Va_readPiece_134 h)
  · rw [if_neg c3] at h
    obtain ⟨v7, σ7, e7, h⟩ := am_bd_some h
    have f7 : FR [(32, 4), (37, 5), (37, 6), (38, 1), (38, 3), (39, 1), (39, 2), (39, 3)] [33, 34] σ σ7 := fr_up (f_Cu_number e7) (by decide) (by decide)
    exact fr_tr f7 (f_Va_readPiece_134 h)
set_option maxHeartbeats 4000000 in
theorem f_Va_readPiece_0 {x1 : Int32} {x2 : Int32} {σ σ' : am_S} {r : Unit} (h : g_Va_readPiece x1 x2 σ = some (r, σ')) : FR [(32, 4), (37, 5), (37, 6), (38, 1), (38, 3), (39, 1), (39, 2), (39, 3)] [33, 34] σ σ' := by
  unfold g_Va_readPiece at h
  by_cases c3 : x2 = 1
  · rw [if_pos c3] at h
    obtain ⟨v9, σ9, e9, h⟩ := am_bd_some h
    have f9 : FR [(32, 4), (37, 5), (37, 6), (38, 1), (38, 3), (39, 1), (39, 2), (39, 3)] [33, 34] σ σ9 := fr_up (f_Cu_uleb e9) (by decide) (by decide)
    obtain ⟨v10, σ10, e10, h⟩ := am_bd_some h
    have f10 : FR [(32, 4), (37, 5), (37, 6), (38, 1), (38, 3), (39, 1), (39, 2), (39, 3)] [33, 34] σ σ10 := fr_tr f9 (fr_up (f_Va_addressAt e10) (by decide) (by decide))
    exact fr_tr (fr_fl f10 (List.mem_of_getElem? (i := 1) rfl)) (f_Va_readPiece_155 h)
  · rw [if_neg c3] at h
    by_cases c6 : x2 = 5
    · rw [if_pos c6] at h
      obtain ⟨v11, σ11, e11, h⟩ := am_bd_some h
      have f11 : FR [(32, 4), (37, 5), (37, 6), (38, 1), (38, 3), (39, 1), (39, 2), (39, 3)] [33, 34] σ σ11 := fr_up (f_Cu_number e11) (by decide) (by decide)
      exact fr_tr (fr_fl f11 (List.mem_of_getElem? (i := 1) rfl)) (f_Va_readPiece_155 h)
    · rw [if_neg c6] at h
      by_cases c9 : x2 = 4
      · rw [if_pos c9] at h
        obtain ⟨v14, σ14, e14, h⟩ := am_bd_some h
        have f14 : FR [(32, 4), (37, 5), (37, 6), (38, 1), (38, 3), (39, 1), (39, 2), (39, 3)] [33, 34] σ σ14 := fr_up (f_Cu_uleb e14) (by decide) (by decide)
        obtain ⟨v23, σ23, e23, h⟩ := am_bd_some h
        have f23 : FR [(32, 4), (37, 5), (37, 6), (38, 1), (38, 3), (39, 1), (39, 2), (39, 3)] [33, 34] σ σ23 := fr_tr f14 (fr_up (f_Cu_uleb e23) (by decide) (by decide))
        obtain ⟨v25, σ25, e25, h⟩ := am_bd_some h
        have f25 : FR [(32, 4), (37, 5), (37, 6), (38, 1), (38, 3), (39, 1), (39, 2), (39, 3)] [33, 34] σ σ25 := fr_tr f23 (fr_up (f_Va_addRange e25) (by decide) (fun _ h9 => h9))
        exact fr_tr f25 (f_Va_readPiece_155 h)
      · rw [if_neg c9] at h
        by_cases c12 : x2 = 2
        · rw [if_pos c12] at h
          exact f_Va_readPiece_105 h
        · rw [if_neg c12] at h
          by_cases c15 : x2 = 3
          · rw [if_pos c15] at h
            exact f_Va_readPiece_105 h
          · rw [if_neg c15] at h
            by_cases c18 : x2 = 6
            · rw [if_pos c18] at h
              exact f_Va_readPiece_105 h
            · rw [if_neg c18] at h
              by_cases c21 : x2 = 7
              · rw [if_pos c21] at h
                exact f_Va_readPiece_105 h
              · rw [if_neg c21] at h
                obtain ⟨v23, σ23, e23, h⟩ := am_bd_some h
                have f23 : FR [(32, 4), (37, 5), (37, 6), (38, 1), (38, 3), (39, 1), (39, 2), (39, 3)] [33, 34] σ σ23 := fr_up (f_Va_wrong e23) (by decide) (by decide)
                exact fr_tr f23 (f_Va_readPiece_155 h)
theorem f_Va_readPiece {x1 : Int32} {x2 : Int32} {σ σ' : am_S} {r : Unit} (h : g_Va_readPiece x1 x2 σ = some (r, σ')) : FR [(32, 4), (37, 5), (37, 6), (38, 1), (38, 3), (39, 1), (39, 2), (39, 3)] [33, 34] σ σ' := f_Va_readPiece_0 h
set_option maxHeartbeats 4000000 in
theorem f_Va_readList_122 {x2 : Int32} {x3 : Int32} {y0 : Int32} {σ σ' : am_S} {r : Unit} {go : Int32 → Int32 → am_S → Option (Unit × am_S)} (hgo : ∀ {x2 : Int32} {x3 : Int32} {σ σ' : am_S} {r : Unit}, go x2 x3 σ = some (r, σ') → FR [(32, 4), (37, 5), (37, 6), (38, 1), (38, 2), (38, 3), (39, 1), (39, 2), (39, 3)] [33, 34] σ σ') (h : g_Va_readList_122 go x2 x3 y0 σ = some (r, σ')) : FR [(32, 4), (37, 5), (37, 6), (38, 1), (38, 2), (38, 3), (39, 1), (39, 2), (39, 3)] [33, 34] σ σ' := by
  unfold g_Va_readList_122 at h
  obtain ⟨_, h⟩ := gd_some h
  exact fr_tr (fr_fi fr_rf (List.mem_of_getElem? (i := 2) rfl)) (hgo h)
set_option maxHeartbeats 4000000 in
theorem f_Va_readList_117 {x2 : Int32} {x3 : Int32} {σ σ' : am_S} {r : Unit} {go : Int32 → Int32 → am_S → Option (Unit × am_S)} (hgo : ∀ {x2 : Int32} {x3 : Int32} {σ σ' : am_S} {r : Unit}, go x2 x3 σ = some (r, σ') → FR [(32, 4), (37, 5), (37, 6), (38, 1), (38, 2), (38, 3), (39, 1), (39, 2), (39, 3)] [33, 34] σ σ') (h : g_Va_readList_117 go x2 x3 σ = some (r, σ')) : FR [(32, 4), (37, 5), (37, 6), (38, 1), (38, 2), (38, 3), (39, 1), (39, 2), (39, 3)] [33, 34] σ σ' := by
  unfold g_Va_readList_117 at h
  exact f_Va_readList_122 hgo h
set_option maxHeartbeats 4000000 in
theorem f_Va_readList_92 {x2 : Int32} {x3 : Int32} {x4 : Int32} {σ σ' : am_S} {r : Unit} {go : Int32 → Int32 → am_S → Option (Unit × am_S)} (hgo : ∀ {x2 : Int32} {x3 : Int32} {σ σ' : am_S} {r : Unit}, go x2 x3 σ = some (r, σ') → FR [(32, 4), (37, 5), (37, 6), (38, 1), (38, 2), (38, 3), (39, 1), (39, 2), (39, 3)] [33, 34] σ σ') (h : g_Va_readList_92 go x2 x3 x4 σ = some (r, σ')) : FR [(32, 4), (37, 5), (37, 6), (38, 1), (38, 2), (38, 3), (39, 1), (39, 2), (39, 3)] [33, 34] σ σ' := by
  unfold g_Va_readList_92 at h
  obtain ⟨v4, σ4, e4, h⟩ := am_bd_some h
  have f4 : FR [(32, 4), (37, 5), (37, 6), (38, 1), (38, 2), (38, 3), (39, 1), (39, 2), (39, 3)] [33, 34] σ σ4 := fr_up (f_Va_readPiece e4) (by decide) (fun _ h9 => h9)
  by_cases c8 : (σ4.1.1 37 6) = 0
  · rw [if_pos c8] at h
    by_cases c12 : (σ4.1.1 38 3) = 0
    · rw [if_pos c12] at h
      exact fr_tr f4 (f_Va_readList_122 hgo h)
    · rw [if_neg c12] at h
      exact fr_tr f4 (f_Va_readList_117 hgo h)
  · rw [if_neg c8] at h
    exact fr_tr f4 (f_Va_readList_117 hgo h)
set_option maxHeartbeats 4000000 in
theorem f_Va_readList_131 {σ σ' : am_S} {r : Unit} (h : g_Va_readList_131 σ = some (r, σ')) : FR [(32, 4), (37, 5), (37, 6), (38, 1), (38, 2), (38, 3), (39, 1), (39, 2), (39, 3)] [33, 34] σ σ' := by
  unfold g_Va_readList_131 at h
  exact fr_lf fr_rf h
set_option maxHeartbeats 4000000 in
theorem f_Va_readList_51 : ∀ (n : Nat) {x2 : Int32} {x3 : Int32} {σ σ' : am_S} {r : Unit} (h : g_Va_readList_51 n x2 x3 σ = some (r, σ')), FR [(32, 4), (37, 5), (37, 6), (38, 1), (38, 2), (38, 3), (39, 1), (39, 2), (39, 3)] [33, 34] σ σ' := by
  intro n
  induction n with
  | zero =>
    intro x2 x3 σ σ' r h
    cases h
  | succ n ih =>
  intro x2 x3 σ σ' r h
  unfold g_Va_readList_51 at h
  by_cases c3 : x3 < 3000
  · rw [if_pos c3] at h
    by_cases c6 : (σ.1.1 37 6) = 0
    · rw [if_pos c6] at h
      obtain ⟨v10, σ10, e10, h⟩ := am_bd_some h
      have f10 : FR [(32, 4), (37, 5), (37, 6), (38, 1), (38, 2), (38, 3), (39, 1), (39, 2), (39, 3)] [33, 34] σ σ10 := fr_up (f_Cu_number e10) (by decide) (by decide)
      by_cases c14 : v10.toInt32 = 0
      · rw [if_pos c14] at h
        by_cases c18 : (σ10.1.1 38 3) = 0
        · rw [if_pos c18] at h
          exact fr_lf f10 h
        · rw [if_neg c18] at h
          exact fr_tr f10 (f_Va_readList_92 (fun h => ih h) h)
      · rw [if_neg c14] at h
        exact fr_tr f10 (f_Va_readList_92 (fun h => ih h) h)
    · rw [if_neg c6] at h
      exact f_Va_readList_131 h
  · rw [if_neg c3] at h
    exact f_Va_readList_131 h
set_option maxHeartbeats 4000000 in
theorem f_Va_readList_0 {x1 : Int32} {σ σ' : am_S} {r : Unit} (h : g_Va_readList x1 σ = some (r, σ')) : FR [(32, 4), (37, 5), (37, 6), (38, 1), (38, 2), (38, 3), (39, 1), (39, 2), (39, 3)] [33, 34] σ σ' := by
  unfold g_Va_readList at h
  obtain ⟨_, h⟩ := gd_some h
  obtain ⟨_, h⟩ := gd_some h
  obtain ⟨v14, σ14, e14, h⟩ := am_bd_some h
  have f14 : FR [(32, 4), (37, 5), (37, 6), (38, 1), (38, 2), (38, 3), (39, 1), (39, 2), (39, 3)] [33, 34] σ σ14 := fr_up (f_Va_lowOf e14) (fun _ h9 => (by cases h9)) (fun _ h9 => (by cases h9))
  obtain ⟨v25, σ25, e25, h⟩ := am_bd_some h
  have f25 : FR [(32, 4), (37, 5), (37, 6), (38, 1), (38, 2), (38, 3), (39, 1), (39, 2), (39, 3)] [33, 34] σ σ25 := fr_tr (fr_fl f14 (List.mem_of_getElem? (i := 1) rfl)) (fr_up (f_En_valueOf e25) (fun _ h9 => (by cases h9)) (fun _ h9 => (by cases h9)))
  obtain ⟨v26, σ26, e26, h⟩ := am_bd_some h
  have f26 : FR [(32, 4), (37, 5), (37, 6), (38, 1), (38, 2), (38, 3), (39, 1), (39, 2), (39, 3)] [33, 34] σ σ26 := fr_tr f25 (fr_up (f_Se_point e26) (by decide) (by decide))
  exact fr_tr f26 (f_Va_readList_51 4000 h)
theorem f_Va_readList {x1 : Int32} {σ σ' : am_S} {r : Unit} (h : g_Va_readList x1 σ = some (r, σ')) : FR [(32, 4), (37, 5), (37, 6), (38, 1), (38, 2), (38, 3), (39, 1), (39, 2), (39, 3)] [33, 34] σ σ' := f_Va_readList_0 h
set_option maxHeartbeats 4000000 in
theorem f_Va_read_50 {x1 : Int32} {σ σ' : am_S} {r : Int32} {go : Int32 → am_S → Option (Int32 × am_S)} (hgo : ∀ {x1 : Int32} {σ σ' : am_S} {r : Int32}, go x1 σ = some (r, σ') → FR [(32, 4), (37, 5), (37, 6), (38, 1), (38, 2), (38, 3), (39, 1), (39, 2), (39, 3), (9, 1), (9, 2), (9, 3)] [16, 33, 34, 35, 36] σ σ') (h : g_Va_read_50 go x1 σ = some (r, σ')) : FR [(32, 4), (37, 5), (37, 6), (38, 1), (38, 2), (38, 3), (39, 1), (39, 2), (39, 3), (9, 1), (9, 2), (9, 3)] [16, 33, 34, 35, 36] σ σ' := by
  unfold g_Va_read_50 at h
  exact hgo h
set_option maxHeartbeats 4000000 in
theorem f_Va_read_153 {x1 : Int32} {σ σ' : am_S} {r : Int32} {go : Int32 → am_S → Option (Int32 × am_S)} (hgo : ∀ {x1 : Int32} {σ σ' : am_S} {r : Int32}, go x1 σ = some (r, σ') → FR [(32, 4), (37, 5), (37, 6), (38, 1), (38, 2), (38, 3), (39, 1), (39, 2), (39, 3), (9, 1), (9, 2), (9, 3)] [16, 33, 34, 35, 36] σ σ') (h : g_Va_read_153 go x1 σ = some (r, σ')) : FR [(32, 4), (37, 5), (37, 6), (38, 1), (38, 2), (38, 3), (39, 1), (39, 2), (39, 3), (9, 1), (9, 2), (9, 3)] [16, 33, 34, 35, 36] σ σ' := by
  unfold g_Va_read_153 at h
  obtain ⟨v4, σ4, e4, h⟩ := am_bd_some h
  have f4 : FR [(32, 4), (37, 5), (37, 6), (38, 1), (38, 2), (38, 3), (39, 1), (39, 2), (39, 3), (9, 1), (9, 2), (9, 3)] [16, 33, 34, 35, 36] σ σ4 := fr_up (f_Ra_end e4) (by decide) (by decide)
  exact fr_tr f4 (hgo h)
set_option maxHeartbeats 4000000 in
theorem f_Va_read_100 {x1 : Int32} {σ σ' : am_S} {r : Int32} {go : Int32 → am_S → Option (Int32 × am_S)} (hgo : ∀ {x1 : Int32} {σ σ' : am_S} {r : Int32}, go x1 σ = some (r, σ') → FR [(32, 4), (37, 5), (37, 6), (38, 1), (38, 2), (38, 3), (39, 1), (39, 2), (39, 3), (9, 1), (9, 2), (9, 3)] [16, 33, 34, 35, 36] σ σ') (h : g_Va_read_100 go x1 σ = some (r, σ')) : FR [(32, 4), (37, 5), (37, 6), (38, 1), (38, 2), (38, 3), (39, 1), (39, 2), (39, 3), (9, 1), (9, 2), (9, 3)] [16, 33, 34, 35, 36] σ σ' := by
  unfold g_Va_read_100 at h
  obtain ⟨v5, σ5, e5, h⟩ := am_bd_some h
  have f5 : FR [(32, 4), (37, 5), (37, 6), (38, 1), (38, 2), (38, 3), (39, 1), (39, 2), (39, 3), (9, 1), (9, 2), (9, 3)] [16, 33, 34, 35, 36] σ σ5 := fr_up (f_En_has e5) (fun _ h9 => (by cases h9)) (fun _ h9 => (by cases h9))
  by_cases c6 : v5 = 0
  · rw [if_pos c6] at h
    obtain ⟨v10, σ10, e10, h⟩ := am_bd_some h
    have f10 : FR [(32, 4), (37, 5), (37, 6), (38, 1), (38, 2), (38, 3), (39, 1), (39, 2), (39, 3), (9, 1), (9, 2), (9, 3)] [16, 33, 34, 35, 36] σ σ10 := fr_tr f5 (fr_up (f_En_hasPlaces e10) (fun _ h9 => (by cases h9)) (fun _ h9 => (by cases h9)))
    by_cases c11 : v10 = 0
    · rw [if_pos c11] at h
      exact fr_tr f10 (f_Va_read_153 hgo h)
    · rw [if_neg c11] at h
      obtain ⟨v17, σ17, e17, h⟩ := am_bd_some h
      have f17 : FR [(32, 4), (37, 5), (37, 6), (38, 1), (38, 2), (38, 3), (39, 1), (39, 2), (39, 3), (9, 1), (9, 2), (9, 3)] [16, 33, 34, 35, 36] σ σ17 := fr_tr f10 (fr_up (f_En_valueOf e17) (fun _ h9 => (by cases h9)) (fun _ h9 => (by cases h9)))
      obtain ⟨v22, σ22, e22, h⟩ := am_bd_some h
      have f22 : FR [(32, 4), (37, 5), (37, 6), (38, 1), (38, 2), (38, 3), (39, 1), (39, 2), (39, 3), (9, 1), (9, 2), (9, 3)] [16, 33, 34, 35, 36] σ σ22 := fr_tr f17 (fr_up (f_En_valueOf e22) (fun _ h9 => (by cases h9)) (fun _ h9 => (by cases h9)))
      obtain ⟨v23, σ23, e23, h⟩ := am_bd_some h
      have f23 : FR [(32, 4), (37, 5), (37, 6), (38, 1), (38, 2), (38, 3), (39, 1), (39, 2), (39, 3), (9, 1), (9, 2), (9, 3)] [16, 33, 34, 35, 36] σ σ23 := fr_tr f22 (fr_up (f_Va_addRange e23) (by decide) (by decide))
      exact fr_tr f23 (f_Va_read_153 hgo h)
  · rw [if_neg c6] at h
    obtain ⟨v9, σ9, e9, h⟩ := am_bd_some h
    have f9 : FR [(32, 4), (37, 5), (37, 6), (38, 1), (38, 2), (38, 3), (39, 1), (39, 2), (39, 3), (9, 1), (9, 2), (9, 3)] [16, 33, 34, 35, 36] σ σ9 := fr_tr f5 (fr_up (f_Va_readList e9) (by decide) (by decide))
    exact fr_tr f9 (f_Va_read_153 hgo h)
set_option maxHeartbeats 4000000 in
theorem f_Va_read_179 {y0 : Int32} {σ σ' : am_S} {r : Int32} (h : g_Va_read_179 y0 σ = some (r, σ')) : FR [(32, 4), (37, 5), (37, 6), (38, 1), (38, 2), (38, 3), (39, 1), (39, 2), (39, 3), (9, 1), (9, 2), (9, 3)] [16, 33, 34, 35, 36] σ σ' := by
  unfold g_Va_read_179 at h
  obtain ⟨_, h⟩ := gd_some h
  exact fr_lf fr_rf h
set_option maxHeartbeats 4000000 in
theorem f_Va_read_167 {σ σ' : am_S} {r : Int32} (h : g_Va_read_167 σ = some (r, σ')) : FR [(32, 4), (37, 5), (37, 6), (38, 1), (38, 2), (38, 3), (39, 1), (39, 2), (39, 3), (9, 1), (9, 2), (9, 3)] [16, 33, 34, 35, 36] σ σ' := by
  unfold g_Va_read_167 at h
  by_cases c3 : (σ.1.1 37 6) = 0
  · rw [if_pos c3] at h
    exact f_Va_read_179 h
  · rw [if_neg c3] at h
    exact f_Va_read_179 h
set_option maxHeartbeats 4000000 in
theorem f_Va_read_58 : ∀ (n : Nat) {x1 : Int32} {σ σ' : am_S} {r : Int32} (h : g_Va_read_58 n x1 σ = some (r, σ')), FR [(32, 4), (37, 5), (37, 6), (38, 1), (38, 2), (38, 3), (39, 1), (39, 2), (39, 3), (9, 1), (9, 2), (9, 3)] [16, 33, 34, 35, 36] σ σ' := by
  intro n
  induction n with
  | zero =>
    intro x1 σ σ' r h
    cases h
  | succ n ih =>
  intro x1 σ σ' r h
  unfold g_Va_read_58 at h
  by_cases c5 : x1 < (σ.1.1 10 10)
  · rw [if_pos c5] at h
    by_cases c8 : (σ.1.1 37 6) = 0
    · rw [if_pos c8] at h
      obtain ⟨v12, σ12, e12, h⟩ := am_bd_some h
      have f12 : FR [(32, 4), (37, 5), (37, 6), (38, 1), (38, 2), (38, 3), (39, 1), (39, 2), (39, 3), (9, 1), (9, 2), (9, 3)] [16, 33, 34, 35, 36] σ σ12 := fr_up (f_Ra_begin e12) (by decide) (by decide)
      obtain ⟨v16, σ16, e16, h⟩ := am_bd_some h
      have f16 : FR [(32, 4), (37, 5), (37, 6), (38, 1), (38, 2), (38, 3), (39, 1), (39, 2), (39, 3), (9, 1), (9, 2), (9, 3)] [16, 33, 34, 35, 36] σ σ16 := fr_tr f12 (fr_up (f_En_isLookedAt e16) (fun _ h9 => (by cases h9)) (fun _ h9 => (by cases h9)))
      by_cases c17 : v16 = 0
      · rw [if_pos c17] at h
        exact fr_tr f16 (f_Va_read_100 (fun h => ih h) h)
      · rw [if_neg c17] at h
        obtain ⟨v20, σ20, e20, h⟩ := am_bd_some h
        have f20 : FR [(32, 4), (37, 5), (37, 6), (38, 1), (38, 2), (38, 3), (39, 1), (39, 2), (39, 3), (9, 1), (9, 2), (9, 3)] [16, 33, 34, 35, 36] σ σ20 := fr_tr f16 (fr_up (f_Va_resolve e20) (by decide) (by decide))
        exact fr_tr f20 (f_Va_read_100 (fun h => ih h) h)
    · rw [if_neg c8] at h
      exact f_Va_read_167 h
  · rw [if_neg c5] at h
    exact f_Va_read_167 h
set_option maxHeartbeats 4000000 in
theorem f_Va_read_15 : ∀ (n : Nat) {x1 : Int32} {σ σ' : am_S} {r : Int32} (h : g_Va_read_15 n x1 σ = some (r, σ')), FR [(32, 4), (37, 5), (37, 6), (38, 1), (38, 2), (38, 3), (39, 1), (39, 2), (39, 3), (9, 1), (9, 2), (9, 3)] [16, 33, 34, 35, 36] σ σ' := by
  intro n
  induction n with
  | zero =>
    intro x1 σ σ' r h
    cases h
  | succ n ih =>
  intro x1 σ σ' r h
  unfold g_Va_read_15 at h
  by_cases c7 : x1 < ((σ.1.1 10 11) * 4)
  · rw [if_pos c7] at h
    obtain ⟨_, h⟩ := gd_some h
    by_cases c15 : (σ.2.1 19 x1.toNatClampNeg) = 0
    · rw [if_pos c15] at h
      exact f_Va_read_50 (fun h => ih h) h
    · rw [if_neg c15] at h
      by_cases c18 : (σ.2.1 19 x1.toNatClampNeg) = 23
      · rw [if_pos c18] at h
        exact f_Va_read_50 (fun h => ih h) h
      · rw [if_neg c18] at h
        exact fr_lf fr_rf h
  · rw [if_neg c7] at h
    exact f_Va_read_58 4000 h
set_option maxHeartbeats 4000000 in
theorem f_Va_read_0 {σ σ' : am_S} {r : Int32} (h : g_Va_read σ = some (r, σ')) : FR [(32, 4), (37, 5), (37, 6), (38, 1), (38, 2), (38, 3), (39, 1), (39, 2), (39, 3), (9, 1), (9, 2), (9, 3)] [16, 33, 34, 35, 36] σ σ' := by
  unfold g_Va_read at h
  exact fr_tr (fr_fi (fr_fi fr_rf (List.mem_of_getElem? (i := 2) rfl)) (List.mem_of_getElem? (i := 0) rfl)) (f_Va_read_15 4000 h)
theorem f_Va_read {σ σ' : am_S} {r : Int32} (h : g_Va_read σ = some (r, σ')) : FR [(32, 4), (37, 5), (37, 6), (38, 1), (38, 2), (38, 3), (39, 1), (39, 2), (39, 3), (9, 1), (9, 2), (9, 3)] [16, 33, 34, 35, 36] σ σ' := f_Va_read_0 h
set_option maxHeartbeats 4000000 in
theorem f_Ro_forgetAll_0 {σ σ' : am_S} {r : Unit} (h : g_Ro_forgetAll σ = some (r, σ')) : FR [(40, 8)] [] σ σ' := by
  unfold g_Ro_forgetAll at h
  exact fr_lf (fr_fi fr_rf (List.mem_of_getElem? (i := 0) rfl)) h
theorem f_Ro_forgetAll {σ σ' : am_S} {r : Unit} (h : g_Ro_forgetAll σ = some (r, σ')) : FR [(40, 8)] [] σ σ' := f_Ro_forgetAll_0 h
set_option maxHeartbeats 4000000 in
theorem f_Ro_begin_0 {x1 : Int32} {σ σ' : am_S} {r : Unit} (h : g_Ro_begin x1 σ = some (r, σ')) : FR [] [45, 47] σ σ' := by
  unfold g_Ro_begin at h
  obtain ⟨_, h⟩ := gd_some h
  obtain ⟨_, h⟩ := gd_some h
  exact fr_lf (fr_ai (fr_ai fr_rf (List.mem_of_getElem? (i := 0) rfl)) (List.mem_of_getElem? (i := 1) rfl)) h
theorem f_Ro_begin {x1 : Int32} {σ σ' : am_S} {r : Unit} (h : g_Ro_begin x1 σ = some (r, σ')) : FR [] [45, 47] σ σ' := f_Ro_begin_0 h
set_option maxHeartbeats 4000000 in
theorem f_Ro_end_0 {x1 : Int32} {σ σ' : am_S} {r : Unit} (h : g_Ro_end x1 σ = some (r, σ')) : FR [] [46] σ σ' := by
  unfold g_Ro_end at h
  obtain ⟨_, h⟩ := gd_some h
  exact fr_lf (fr_ai fr_rf (List.mem_of_getElem? (i := 0) rfl)) h
theorem f_Ro_end {x1 : Int32} {σ σ' : am_S} {r : Unit} (h : g_Ro_end x1 σ = some (r, σ')) : FR [] [46] σ σ' := f_Ro_end_0 h
