set_option maxHeartbeats 4000000 in
theorem f_Mo_line_59 {y0 : Int32} {σ σ' : am_S} {r : Int32} (h : g_Mo_line_59 y0 σ = some (r, σ')) : FR [(0, 1)] [] σ σ' := by
  unfold g_Mo_line_59 at h
  exact fr_lf fr_rf h
set_option maxHeartbeats 4000000 in
theorem f_Mo_line_94 {y0 : Int32} {σ σ' : am_S} {r : Int32} (h : g_Mo_line_94 y0 σ = some (r, σ')) : FR [(0, 1)] [] σ σ' := by
  unfold g_Mo_line_94 at h
  exact fr_lf fr_rf h
set_option maxHeartbeats 4000000 in
theorem f_Mo_line_0 {x1 : Int32} {σ σ' : am_S} {r : Int32} (h : g_Mo_line x1 σ = some (r, σ')) : FR [(0, 1)] [] σ σ' := by
  unfold g_Mo_line at h
  obtain ⟨v6, σ6, e6, h⟩ := am_bd_some h
  have f6 : FR [(0, 1)] [] σ σ6 := fr_tr (fr_fi fr_rf (List.mem_of_getElem? (i := 0) rfl)) (fr_up (f_Mo_isFrame e6) (fun _ h9 => (by cases h9)) (fun _ h9 => (by cases h9)))
  by_cases c7 : v6 = 0
  · rw [if_pos c7] at h
    exact fr_lf f6 h
  · rw [if_neg c7] at h
    by_cases c10 : (σ6.1.1 0 55) = 0
    · rw [if_pos c10] at h
      exact fr_lf f6 h
    · rw [if_neg c10] at h
      by_cases c12 : x1 = 0
      · rw [if_pos c12] at h
        obtain ⟨_, h⟩ := gd_some h
        obtain ⟨_, h⟩ := gd_some h
        obtain ⟨v21, σ21, e21, h⟩ := am_bd_some h
        have f21 : FR [(0, 1)] [] σ σ21 := fr_tr f6 (fr_up (f_Mo_rowOf e21) (fun _ h9 => (by cases h9)) (fun _ h9 => (by cases h9)))
        by_cases c25 : v21 = (-1)
        · rw [if_pos c25] at h
          exact fr_tr f21 (f_Mo_line_59 h)
        · rw [if_neg c25] at h
          obtain ⟨_, h⟩ := gd_some h
          exact fr_tr f21 (f_Mo_line_59 h)
      · rw [if_neg c12] at h
        obtain ⟨_, h⟩ := gd_some h
        obtain ⟨v24, σ24, e24, h⟩ := am_bd_some h
        have f24 : FR [(0, 1)] [] σ σ24 := fr_tr f6 (fr_up (f_Mo_has e24) (fun _ h9 => (by cases h9)) (fun _ h9 => (by cases h9)))
        by_cases c25 : v24 = 0
        · rw [if_pos c25] at h
          exact fr_tr f24 (f_Mo_line_94 h)
        · rw [if_neg c25] at h
          obtain ⟨v29, σ29, e29, h⟩ := am_bd_some h
          have f29 : FR [(0, 1)] [] σ σ29 := fr_tr f24 (fr_up (f_Mo_valueAt e29) (fun _ h9 => (by cases h9)) (fun _ h9 => (by cases h9)))
          exact fr_tr f29 (f_Mo_line_94 h)
theorem f_Mo_line {x1 : Int32} {σ σ' : am_S} {r : Int32} (h : g_Mo_line x1 σ = some (r, σ')) : FR [(0, 1)] [] σ σ' := f_Mo_line_0 h
