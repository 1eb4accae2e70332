set_option maxHeartbeats 4000000 in
theorem f_Mo_readOne_85 {x1 : Int32} {x2 : Int32} {x3 : Int32} {x4 : Int32} {σ σ' : am_S} {r : Int32} {go : Int32 → Int32 → Int32 → Int32 → am_S → Option (Int32 × am_S)} (hgo : ∀ {x1 : Int32} {x2 : Int32} {x3 : Int32} {x4 : Int32} {σ σ' : am_S} {r : Int32}, go x1 x2 x3 x4 σ = some (r, σ') → FR [(0, 6), (0, 8)] [] σ σ') (h : g_Mo_readOne_85 go x1 x2 x3 x4 σ = some (r, σ')) : FR [(0, 6), (0, 8)] [] σ σ' := by
  unfold g_Mo_readOne_85 at h
  exact hgo h
set_option maxHeartbeats 4000000 in
theorem f_Mo_readOne_82 {x1 : Int32} {x2 : Int32} {x3 : Int32} {x4 : Int32} {y0 : Int32} {σ σ' : am_S} {r : Int32} {go : Int32 → Int32 → Int32 → Int32 → am_S → Option (Int32 × am_S)} (hgo : ∀ {x1 : Int32} {x2 : Int32} {x3 : Int32} {x4 : Int32} {σ σ' : am_S} {r : Int32}, go x1 x2 x3 x4 σ = some (r, σ') → FR [(0, 6), (0, 8)] [] σ σ') (h : g_Mo_readOne_82 go x1 x2 x3 x4 y0 σ = some (r, σ')) : FR [(0, 6), (0, 8)] [] σ σ' := by
  unfold g_Mo_readOne_82 at h
  obtain ⟨_, h⟩ := gd_some h
  exact fr_tr (fr_fi fr_rf (List.mem_of_getElem? (i := 1) rfl)) (f_Mo_readOne_85 hgo h)
set_option maxHeartbeats 4000000 in
theorem f_Mo_readOne_70 {x1 : Int32} {x2 : Int32} {x4 : Int32} {y0 : Int32} {σ σ' : am_S} {r : Int32} {go : Int32 → Int32 → Int32 → Int32 → am_S → Option (Int32 × am_S)} (hgo : ∀ {x1 : Int32} {x2 : Int32} {x3 : Int32} {x4 : Int32} {σ σ' : am_S} {r : Int32}, go x1 x2 x3 x4 σ = some (r, σ') → FR [(0, 6), (0, 8)] [] σ σ') (h : g_Mo_readOne_70 go x1 x2 x4 y0 σ = some (r, σ')) : FR [(0, 6), (0, 8)] [] σ σ' := by
  unfold g_Mo_readOne_70 at h
  by_cases c5 : y0 = (-1)
  · rw [if_pos c5] at h
    exact f_Mo_readOne_82 hgo h
  · rw [if_neg c5] at h
    exact f_Mo_readOne_82 hgo h
set_option maxHeartbeats 4000000 in
theorem f_Mo_readOne_104 {y0 : Int32} {σ σ' : am_S} {r : Int32} (h : g_Mo_readOne_104 y0 σ = some (r, σ')) : FR [(0, 6), (0, 8)] [] σ σ' := by
  unfold g_Mo_readOne_104 at h
  exact fr_lf fr_rf h
set_option maxHeartbeats 4000000 in
theorem f_Mo_readOne_91 {x3 : Int32} {σ σ' : am_S} {r : Int32} (h : g_Mo_readOne_91 x3 σ = some (r, σ')) : FR [(0, 6), (0, 8)] [] σ σ' := by
  unfold g_Mo_readOne_91 at h
  by_cases c3 : (σ.1.1 0 8) = 0
  · rw [if_pos c3] at h
    exact f_Mo_readOne_104 h
  · rw [if_neg c3] at h
    exact f_Mo_readOne_104 h
set_option maxHeartbeats 4000000 in
theorem f_Mo_readOne_5 : ∀ (n : Nat) {x1 : Int32} {x2 : Int32} {x3 : Int32} {x4 : Int32} {σ σ' : am_S} {r : Int32} (h : g_Mo_readOne_5 n x1 x2 x3 x4 σ = some (r, σ')), FR [(0, 6), (0, 8)] [] σ σ' := by
  intro n
  induction n with
  | zero =>
    intro x1 x2 x3 x4 σ σ' r h
    cases h
  | succ n ih =>
  intro x1 x2 x3 x4 σ σ' r h
  unfold g_Mo_readOne_5 at h
  by_cases c3 : x4 < x1
  · rw [if_pos c3] at h
    by_cases c6 : (σ.1.1 0 8) = 0
    · rw [if_pos c6] at h
      obtain ⟨_, h⟩ := gd_some h
      obtain ⟨v13, σ13, e13, h⟩ := am_bd_some h
      have f13 : FR [(0, 6), (0, 8)] [] σ σ13 := f_Mo_readValue e13
      by_cases c17 : x4 = x2
      · rw [if_pos c17] at h
        by_cases c20 : (σ13.1.1 0 8) = 0
        · rw [if_pos c20] at h
          obtain ⟨_, h⟩ := gd_some h
          by_cases c26 : (σ13.2.1 29 x4.toNatClampNeg) = 8
          · rw [if_pos c26] at h
            exact fr_tr f13 (f_Mo_readOne_70 (fun h => ih h) h)
          · rw [if_neg c26] at h
            obtain ⟨v30, σ30, e30, h⟩ := am_bd_some h
            have f30 : FR [(0, 6), (0, 8)] [] σ σ30 := fr_tr f13 (fr_up (f_Mo_textIn e30) (fun _ h9 => (by cases h9)) (fun _ h9 => (by cases h9)))
            exact fr_tr f30 (f_Mo_readOne_70 (fun h => ih h) h)
        · rw [if_neg c20] at h
          exact fr_tr f13 (f_Mo_readOne_85 (fun h => ih h) h)
      · rw [if_neg c17] at h
        exact fr_tr f13 (f_Mo_readOne_85 (fun h => ih h) h)
    · rw [if_neg c6] at h
      exact f_Mo_readOne_91 h
  · rw [if_neg c3] at h
    exact f_Mo_readOne_91 h
set_option maxHeartbeats 4000000 in
theorem f_Mo_readOne_0 {x1 : Int32} {x2 : Int32} {σ σ' : am_S} {r : Int32} (h : g_Mo_readOne x1 x2 σ = some (r, σ')) : FR [(0, 6), (0, 8)] [] σ σ' := by
  unfold g_Mo_readOne at h
  exact f_Mo_readOne_5 4000 h
theorem f_Mo_readOne {x1 : Int32} {x2 : Int32} {σ σ' : am_S} {r : Int32} (h : g_Mo_readOne x1 x2 σ = some (r, σ')) : FR [(0, 6), (0, 8)] [] σ σ' := f_Mo_readOne_0 h
set_option maxHeartbeats 4000000 in
theorem f_Mo_readTable_69 {σ σ' : am_S} {r : Int32} (h : g_Mo_readTable_69 σ = some (r, σ')) : FR [(0, 6), (0, 8)] [25, 26, 29] σ σ' := by
  unfold g_Mo_readTable_69 at h
  exact fr_lf fr_rf h
set_option maxHeartbeats 4000000 in
theorem f_Mo_readTable_155 {x1 : Int32} {x2 : Int32} {x3 : Int32} {x4 : Int32} {x5 : Int64} {x7 : Int64} {σ σ' : am_S} {r : Int32} {go : Int32 → Int32 → Int32 → Int32 → Int64 → Int64 → am_S → Option (Int32 × am_S)} (hgo : ∀ {x1 : Int32} {x2 : Int32} {x3 : Int32} {x4 : Int32} {x5 : Int64} {x7 : Int64} {σ σ' : am_S} {r : Int32}, go x1 x2 x3 x4 x5 x7 σ = some (r, σ') → FR [(0, 6), (0, 8)] [25, 26, 29] σ σ') (h : g_Mo_readTable_155 go x1 x2 x3 x4 x5 x7 σ = some (r, σ')) : FR [(0, 6), (0, 8)] [25, 26, 29] σ σ' := by
  unfold g_Mo_readTable_155 at h
  exact hgo h
set_option maxHeartbeats 4000000 in
theorem f_Mo_readTable_118 {x1 : Int32} {x2 : Int32} {x3 : Int32} {x4 : Int32} {x5 : Int64} {x7 : Int64} {σ σ' : am_S} {r : Int32} {go : Int32 → Int32 → Int32 → Int32 → Int64 → Int64 → am_S → Option (Int32 × am_S)} (hgo : ∀ {x1 : Int32} {x2 : Int32} {x3 : Int32} {x4 : Int32} {x5 : Int64} {x7 : Int64} {σ σ' : am_S} {r : Int32}, go x1 x2 x3 x4 x5 x7 σ = some (r, σ') → FR [(0, 6), (0, 8)] [25, 26, 29] σ σ') (h : g_Mo_readTable_118 go x1 x2 x3 x4 x5 x7 σ = some (r, σ')) : FR [(0, 6), (0, 8)] [25, 26, 29] σ σ' := by
  unfold g_Mo_readTable_118 at h
  obtain ⟨v4, σ4, e4, h⟩ := am_bd_some h
  have f4 : FR [(0, 6), (0, 8)] [25, 26, 29] σ σ4 := fr_up (f_Mo_readOne e4) (fun _ h9 => h9) (by decide)
  by_cases c8 : v4 = (-2)
  · rw [if_pos c8] at h
    exact fr_lf f4 h
  · rw [if_neg c8] at h
    by_cases c10 : x2 = 0
    · rw [if_pos c10] at h
      exact fr_tr f4 (f_Mo_readTable_155 hgo h)
    · rw [if_neg c10] at h
      obtain ⟨_, h⟩ := gd_some h
      exact fr_tr (fr_ai f4 (List.mem_of_getElem? (i := 1) rfl)) (f_Mo_readTable_155 hgo h)
set_option maxHeartbeats 4000000 in
theorem f_Mo_readTable_164 {σ σ' : am_S} {r : Int32} (h : g_Mo_readTable_164 σ = some (r, σ')) : FR [(0, 6), (0, 8)] [25, 26, 29] σ σ' := by
  unfold g_Mo_readTable_164 at h
  exact fr_lf fr_rf h
set_option maxHeartbeats 4000000 in
theorem f_Mo_readTable_106 {x1 : Int32} {x2 : Int32} {x3 : Int32} {x4 : Int32} {x5 : Int64} {x7 : Int64} {σ σ' : am_S} {r : Int32} {go : Int32 → Int32 → Int32 → Int32 → Int64 → Int64 → am_S → Option (Int32 × am_S)} (hgo : ∀ {x1 : Int32} {x2 : Int32} {x3 : Int32} {x4 : Int32} {x5 : Int64} {x7 : Int64} {σ σ' : am_S} {r : Int32}, go x1 x2 x3 x4 x5 x7 σ = some (r, σ') → FR [(0, 6), (0, 8)] [25, 26, 29] σ σ') (h : g_Mo_readTable_106 go x1 x2 x3 x4 x5 x7 σ = some (r, σ')) : FR [(0, 6), (0, 8)] [25, 26, 29] σ σ' := by
  unfold g_Mo_readTable_106 at h
  by_cases c2 : x2 = 0
  · rw [if_pos c2] at h
    exact f_Mo_readTable_164 h
  · rw [if_neg c2] at h
    by_cases c6 : (lg_cmp x7 x5) < 0
    · rw [if_pos c6] at h
      exact f_Mo_readTable_118 hgo h
    · rw [if_neg c6] at h
      exact f_Mo_readTable_164 h
set_option maxHeartbeats 4000000 in
theorem f_Mo_readTable_102 {x1 : Int32} {x2 : Int32} {x3 : Int32} {x4 : Int32} {x5 : Int64} {x7 : Int64} {σ σ' : am_S} {r : Int32} {go : Int32 → Int32 → Int32 → Int32 → Int64 → Int64 → am_S → Option (Int32 × am_S)} (hgo : ∀ {x1 : Int32} {x2 : Int32} {x3 : Int32} {x4 : Int32} {x5 : Int64} {x7 : Int64} {σ σ' : am_S} {r : Int32}, go x1 x2 x3 x4 x5 x7 σ = some (r, σ') → FR [(0, 6), (0, 8)] [25, 26, 29] σ σ') (h : g_Mo_readTable_102 go x1 x2 x3 x4 x5 x7 σ = some (r, σ')) : FR [(0, 6), (0, 8)] [25, 26, 29] σ σ' := by
  unfold g_Mo_readTable_102 at h
  by_cases c2 : 0 < x3
  · rw [if_pos c2] at h
    exact f_Mo_readTable_118 hgo h
  · rw [if_neg c2] at h
    exact f_Mo_readTable_106 hgo h
set_option maxHeartbeats 4000000 in
theorem f_Mo_readTable_87 : ∀ (n : Nat) {x1 : Int32} {x2 : Int32} {x3 : Int32} {x4 : Int32} {x5 : Int64} {x7 : Int64} {σ σ' : am_S} {r : Int32} (h : g_Mo_readTable_87 n x1 x2 x3 x4 x5 x7 σ = some (r, σ')), FR [(0, 6), (0, 8)] [25, 26, 29] σ σ' := by
  intro n
  induction n with
  | zero =>
    intro x1 x2 x3 x4 x5 x7 σ σ' r h
    cases h
  | succ n ih =>
  intro x1 x2 x3 x4 x5 x7 σ σ' r h
  unfold g_Mo_readTable_87 at h
  by_cases c4 : (lg_cmp x7 x5) < 0
  · rw [if_pos c4] at h
    exact f_Mo_readTable_102 (fun h => ih h) h
  · rw [if_neg c4] at h
    by_cases c8 : (lg_cmp x5 0) < 0
    · rw [if_pos c8] at h
      exact f_Mo_readTable_102 (fun h => ih h) h
    · rw [if_neg c8] at h
      exact f_Mo_readTable_106 (fun h => ih h) h
set_option maxHeartbeats 4000000 in
theorem f_Mo_readTable_84 {x1 : Int32} {x2 : Int32} {x3 : Int32} {x4 : Int32} {x5 : Int64} {σ σ' : am_S} {r : Int32} (h : g_Mo_readTable_84 x1 x2 x3 x4 x5 σ = some (r, σ')) : FR [(0, 6), (0, 8)] [25, 26, 29] σ σ' := by
  unfold g_Mo_readTable_84 at h
  exact f_Mo_readTable_87 4000 h
set_option maxHeartbeats 4000000 in
theorem f_Mo_readTable_71 {x1 : Int32} {x2 : Int32} {x3 : Int32} {x4 : Int32} {x5 : Int64} {σ σ' : am_S} {r : Int32} (h : g_Mo_readTable_71 x1 x2 x3 x4 x5 σ = some (r, σ')) : FR [(0, 6), (0, 8)] [25, 26, 29] σ σ' := by
  unfold g_Mo_readTable_71 at h
  by_cases c2 : x2 = 0
  · rw [if_pos c2] at h
    exact f_Mo_readTable_84 h
  · rw [if_neg c2] at h
    obtain ⟨_, h⟩ := gd_some h
    exact fr_tr (fr_ai fr_rf (List.mem_of_getElem? (i := 0) rfl)) (f_Mo_readTable_84 h)
set_option maxHeartbeats 4000000 in
theorem f_Mo_readTable_30 {x1 : Int32} {x2 : Int32} {x3 : Int32} {y0 : Int32} {σ σ' : am_S} {r : Int32} (h : g_Mo_readTable_30 x1 x2 x3 y0 σ = some (r, σ')) : FR [(0, 6), (0, 8)] [25, 26, 29] σ σ' := by
  unfold g_Mo_readTable_30 at h
  obtain ⟨v4, σ4, e4, h⟩ := am_bd_some h
  have f4 : FR [(0, 6), (0, 8)] [25, 26, 29] σ σ4 := fr_up (f_Mo_leb e4) (fun _ h9 => h9) (by decide)
  by_cases c8 : y0 = (-2)
  · rw [if_pos c8] at h
    exact fr_tr f4 (f_Mo_readTable_69 h)
  · rw [if_neg c8] at h
    by_cases c11 : (σ4.1.1 0 8) = 0
    · rw [if_pos c11] at h
      by_cases c13 : x2 = 0
      · rw [if_pos c13] at h
        exact fr_tr f4 (f_Mo_readTable_71 h)
      · rw [if_neg c13] at h
        obtain ⟨v17, σ17, e17, h⟩ := am_bd_some h
        have f17 : FR [(0, 6), (0, 8)] [25, 26, 29] σ σ17 := fr_tr f4 (fr_up (f_Mo_in e17) (fun _ h9 => (by cases h9)) (fun _ h9 => (by cases h9)))
        by_cases c18 : v17 = 0
        · rw [if_pos c18] at h
          exact fr_tr f17 (f_Mo_readTable_69 h)
        · rw [if_neg c18] at h
          exact fr_tr f17 (f_Mo_readTable_71 h)
    · rw [if_neg c11] at h
      exact fr_tr f4 (f_Mo_readTable_69 h)
set_option maxHeartbeats 4000000 in
theorem f_Mo_readTable_20 {x1 : Int32} {x2 : Int32} {x3 : Int32} {σ σ' : am_S} {r : Int32} (h : g_Mo_readTable_20 x1 x2 x3 σ = some (r, σ')) : FR [(0, 6), (0, 8)] [25, 26, 29] σ σ' := by
  unfold g_Mo_readTable_20 at h
  exact f_Mo_readTable_30 h
set_option maxHeartbeats 4000000 in
theorem f_Mo_readTable_0 {x1 : Int32} {x2 : Int32} {σ σ' : am_S} {r : Int32} (h : g_Mo_readTable x1 x2 σ = some (r, σ')) : FR [(0, 6), (0, 8)] [25, 26, 29] σ σ' := by
  unfold g_Mo_readTable at h
  obtain ⟨v3, σ3, e3, h⟩ := am_bd_some h
  have f3 : FR [(0, 6), (0, 8)] [25, 26, 29] σ σ3 := fr_up (f_Mo_u e3) (fun _ h9 => h9) (by decide)
  by_cases c8 : (σ3.1.1 0 8) = 0
  · rw [if_pos c8] at h
    by_cases c11 : 6 < v3.toInt32
    · rw [if_pos c11] at h
      exact fr_tr f3 (f_Mo_readTable_20 h)
    · rw [if_neg c11] at h
      obtain ⟨v14, σ14, e14, h⟩ := am_bd_some h
      have f14 : FR [(0, 6), (0, 8)] [25, 26, 29] σ σ14 := fr_tr f3 (fr_up (f_Mo_readWhats e14) (fun _ h9 => h9) (by decide))
      exact fr_tr f14 (f_Mo_readTable_30 h)
  · rw [if_neg c8] at h
    exact fr_tr f3 (f_Mo_readTable_20 h)
theorem f_Mo_readTable {x1 : Int32} {x2 : Int32} {σ σ' : am_S} {r : Int32} (h : g_Mo_readTable x1 x2 σ = some (r, σ')) : FR [(0, 6), (0, 8)] [25, 26, 29] σ σ' := f_Mo_readTable_0 h
set_option maxHeartbeats 4000000 in
theorem f_Mo_longCode_31 {σ σ' : am_S} {r : Int32} (h : g_Mo_longCode_31 σ = some (r, σ')) : FR [(0, 38), (0, 47), (0, 48), (0, 49), (0, 6), (0, 8)] [27, 30, 31, 32] σ σ' := by
  unfold g_Mo_longCode_31 at h
  exact fr_lf fr_rf h
set_option maxHeartbeats 4000000 in
theorem f_Mo_longCode_112 {x3 : Int32} {x5 : Int32} {σ σ' : am_S} {r : Int32} (h : g_Mo_longCode_112 x3 x5 σ = some (r, σ')) : FR [(0, 38), (0, 47), (0, 48), (0, 49), (0, 6), (0, 8)] [27, 30, 31, 32] σ σ' := by
  unfold g_Mo_longCode_112 at h
  obtain ⟨_, h⟩ := gd_some h
  exact fr_lf (fr_fi fr_rf (List.mem_of_getElem? (i := 4) rfl)) h
set_option maxHeartbeats 4000000 in
theorem f_Mo_longCode_109 {x3 : Int32} {x5 : Int32} {y0 : Int64} {σ σ' : am_S} {r : Int32} (h : g_Mo_longCode_109 x3 x5 y0 σ = some (r, σ')) : FR [(0, 38), (0, 47), (0, 48), (0, 49), (0, 6), (0, 8)] [27, 30, 31, 32] σ σ' := by
  unfold g_Mo_longCode_109 at h
  exact fr_tr (fr_fl fr_rf (List.mem_of_getElem? (i := 1) rfl)) (f_Mo_longCode_112 h)
set_option maxHeartbeats 4000000 in
theorem f_Mo_longCode_91 {x3 : Int32} {y0 : Int32} {σ σ' : am_S} {r : Int32} (h : g_Mo_longCode_91 x3 y0 σ = some (r, σ')) : FR [(0, 38), (0, 47), (0, 48), (0, 49), (0, 6), (0, 8)] [27, 30, 31, 32] σ σ' := by
  unfold g_Mo_longCode_91 at h
  by_cases c4 : y0 = 0
  · rw [if_pos c4] at h
    exact f_Mo_longCode_109 h
  · rw [if_neg c4] at h
    obtain ⟨v7, σ7, e7, h⟩ := am_bd_some h
    have f7 : FR [(0, 38), (0, 47), (0, 48), (0, 49), (0, 6), (0, 8)] [27, 30, 31, 32] σ σ7 := fr_up (f_Mo_u e7) (by decide) (by decide)
    exact fr_tr f7 (f_Mo_longCode_109 h)
set_option maxHeartbeats 4000000 in
theorem f_Mo_longCode_0 {σ σ' : am_S} {r : Int32} (h : g_Mo_longCode σ = some (r, σ')) : FR [(0, 38), (0, 47), (0, 48), (0, 49), (0, 6), (0, 8)] [27, 30, 31, 32] σ σ' := by
  unfold g_Mo_longCode at h
  obtain ⟨v3, σ3, e3, h⟩ := am_bd_some h
  have f3 : FR [(0, 38), (0, 47), (0, 48), (0, 49), (0, 6), (0, 8)] [27, 30, 31, 32] σ σ3 := fr_up (f_Mo_leb e3) (by decide) (by decide)
  by_cases c7 : (σ3.1.1 0 8) = 0
  · rw [if_pos c7] at h
    obtain ⟨v16, σ16, e16, h⟩ := am_bd_some h
    have f16 : FR [(0, 38), (0, 47), (0, 48), (0, 49), (0, 6), (0, 8)] [27, 30, 31, 32] σ σ16 := fr_tr f3 (fr_up (f_Mo_in e16) (fun _ h9 => (by cases h9)) (fun _ h9 => (by cases h9)))
    by_cases c17 : v16 = 0
    · rw [if_pos c17] at h
      exact fr_tr f16 (f_Mo_longCode_31 h)
    · rw [if_neg c17] at h
      obtain ⟨v26, σ26, e26, h⟩ := am_bd_some h
      have f26 : FR [(0, 38), (0, 47), (0, 48), (0, 49), (0, 6), (0, 8)] [27, 30, 31, 32] σ σ26 := fr_tr f16 (fr_up (f_Mo_u e26) (by decide) (by decide))
      by_cases c33 : v26.toInt32 = 1
      · rw [if_pos c33] at h
        obtain ⟨v36, σ36, e36, h⟩ := am_bd_some h
        have f36 : FR [(0, 38), (0, 47), (0, 48), (0, 49), (0, 6), (0, 8)] [27, 30, 31, 32] σ σ36 := fr_tr f26 (fr_up (f_Mo_row e36) (by decide) (fun _ h9 => h9))
        obtain ⟨v39, σ39, e39, h⟩ := am_bd_some h
        have f39 : FR [(0, 38), (0, 47), (0, 48), (0, 49), (0, 6), (0, 8)] [27, 30, 31, 32] σ σ39 := fr_tr f36 (fr_up (f_Mo_begin e39) (by decide) (by decide))
        exact fr_tr f39 (f_Mo_longCode_112 h)
      · rw [if_neg c33] at h
        by_cases c36 : v26.toInt32 = 2
        · rw [if_pos c36] at h
          by_cases c40 : (lg_cmp v3 9) < 0
          · rw [if_pos c40] at h
            exact fr_tr f26 (f_Mo_longCode_91 h)
          · rw [if_neg c40] at h
            exact fr_tr f26 (f_Mo_longCode_91 h)
        · rw [if_neg c36] at h
          exact fr_tr f26 (f_Mo_longCode_112 h)
  · rw [if_neg c7] at h
    exact fr_tr f3 (f_Mo_longCode_31 h)
theorem f_Mo_longCode {σ σ' : am_S} {r : Int32} (h : g_Mo_longCode σ = some (r, σ')) : FR [(0, 38), (0, 47), (0, 48), (0, 49), (0, 6), (0, 8)] [27, 30, 31, 32] σ σ' := f_Mo_longCode_0 h
set_option maxHeartbeats 4000000 in
theorem f_Mo_code_161 {y0 : Int32} {σ σ' : am_S} {r : Int32} (h : g_Mo_code_161 y0 σ = some (r, σ')) : FR [(0, 38), (0, 47), (0, 48), (0, 49), (0, 6), (0, 8)] [27, 30, 31, 32] σ σ' := by
  unfold g_Mo_code_161 at h
  obtain ⟨_, h⟩ := gd_some h
  exact fr_lf fr_rf h
set_option maxHeartbeats 4000000 in
theorem f_Mo_code_189 {y0 : Int32} {σ σ' : am_S} {r : Int32} (h : g_Mo_code_189 y0 σ = some (r, σ')) : FR [(0, 38), (0, 47), (0, 48), (0, 49), (0, 6), (0, 8)] [27, 30, 31, 32] σ σ' := by
  unfold g_Mo_code_189 at h
  obtain ⟨_, h⟩ := gd_some h
  exact fr_lf fr_rf h
set_option maxHeartbeats 4000000 in
theorem f_Mo_code_211 {y0 : Int32} {σ σ' : am_S} {r : Int32} (h : g_Mo_code_211 y0 σ = some (r, σ')) : FR [(0, 38), (0, 47), (0, 48), (0, 49), (0, 6), (0, 8)] [27, 30, 31, 32] σ σ' := by
  unfold g_Mo_code_211 at h
  obtain ⟨_, h⟩ := gd_some h
  exact fr_lf fr_rf h
set_option maxHeartbeats 4000000 in
theorem f_Mo_code_212 {σ σ' : am_S} {r : Int32} (h : g_Mo_code_212 σ = some (r, σ')) : FR [(0, 38), (0, 47), (0, 48), (0, 49), (0, 6), (0, 8)] [27, 30, 31, 32] σ σ' := by
  unfold g_Mo_code_212 at h
  exact fr_lf fr_rf h
set_option maxHeartbeats 4000000 in
theorem f_Mo_code_265 {y0 : Int32} {σ σ' : am_S} {r : Int32} (h : g_Mo_code_265 y0 σ = some (r, σ')) : FR [(0, 38), (0, 47), (0, 48), (0, 49), (0, 6), (0, 8)] [27, 30, 31, 32] σ σ' := by
  unfold g_Mo_code_265 at h
  obtain ⟨_, h⟩ := gd_some h
  exact fr_lf fr_rf h
set_option maxHeartbeats 4000000 in
theorem f_Mo_code_331 {y0 : Int32} {σ σ' : am_S} {r : Int32} (h : g_Mo_code_331 y0 σ = some (r, σ')) : FR [(0, 38), (0, 47), (0, 48), (0, 49), (0, 6), (0, 8)] [27, 30, 31, 32] σ σ' := by
  unfold g_Mo_code_331 at h
  obtain ⟨_, h⟩ := gd_some h
  exact fr_lf fr_rf h
set_option maxHeartbeats 4000000 in
theorem f_Mo_code_301 : ∀ (n : Nat) {x2 : Int32} {x3 : Int32} {σ σ' : am_S} {r : Int32} (h : g_Mo_code_301 n x2 x3 σ = some (r, σ')), FR [(0, 38), (0, 47), (0, 48), (0, 49), (0, 6), (0, 8)] [27, 30, 31, 32] σ σ' := by
  intro n
  induction n with
  | zero =>
    intro x2 x3 σ σ' r h
    cases h
  | succ n ih =>
  intro x2 x3 σ σ' r h
  unfold g_Mo_code_301 at h
  by_cases c3 : x3 < x2
  · rw [if_pos c3] at h
    obtain ⟨v6, σ6, e6, h⟩ := am_bd_some h
    have f6 : FR [(0, 38), (0, 47), (0, 48), (0, 49), (0, 6), (0, 8)] [27, 30, 31, 32] σ σ6 := fr_up (f_Mo_leb e6) (by decide) (by decide)
    exact fr_tr f6 (ih h)
  · rw [if_neg c3] at h
    by_cases c6 : (σ.1.1 0 8) = 0
    · rw [if_pos c6] at h
      exact f_Mo_code_331 h
    · rw [if_neg c6] at h
      exact f_Mo_code_331 h
set_option maxHeartbeats 4000000 in
theorem f_Mo_code_298 {y0 : Int32} {σ σ' : am_S} {r : Int32} (h : g_Mo_code_298 y0 σ = some (r, σ')) : FR [(0, 38), (0, 47), (0, 48), (0, 49), (0, 6), (0, 8)] [27, 30, 31, 32] σ σ' := by
  unfold g_Mo_code_298 at h
  exact f_Mo_code_301 4000 h
set_option maxHeartbeats 4000000 in
theorem f_Mo_code_277 {σ σ' : am_S} {r : Int32} (h : g_Mo_code_277 σ = some (r, σ')) : FR [(0, 38), (0, 47), (0, 48), (0, 49), (0, 6), (0, 8)] [27, 30, 31, 32] σ σ' := by
  unfold g_Mo_code_277 at h
  exact f_Mo_code_298 h
set_option maxHeartbeats 4000000 in
theorem f_Mo_code_266 {x1 : Int32} {σ σ' : am_S} {r : Int32} (h : g_Mo_code_266 x1 σ = some (r, σ')) : FR [(0, 38), (0, 47), (0, 48), (0, 49), (0, 6), (0, 8)] [27, 30, 31, 32] σ σ' := by
  unfold g_Mo_code_266 at h
  by_cases c3 : x1 = 5
  · rw [if_pos c3] at h
    exact f_Mo_code_277 h
  · rw [if_neg c3] at h
    by_cases c6 : x1 = 12
    · rw [if_pos c6] at h
      exact f_Mo_code_277 h
    · rw [if_neg c6] at h
      obtain ⟨_, h⟩ := gd_some h
      exact f_Mo_code_298 h
set_option maxHeartbeats 4000000 in
theorem f_Mo_code_0 {x1 : Int32} {σ σ' : am_S} {r : Int32} (h : g_Mo_code x1 σ = some (r, σ')) : FR [(0, 38), (0, 47), (0, 48), (0, 49), (0, 6), (0, 8)] [27, 30, 31, 32] σ σ' := by
  unfold g_Mo_code at h
  by_cases c4 : x1 < (σ.1.1 0 50)
  · rw [if_pos c4] at h
    by_cases d6_0 : x1 = 0
    · rw [if_pos d6_0] at h
      obtain ⟨v8, σ8, e8, h⟩ := am_bd_some h
      have f8 : FR [(0, 38), (0, 47), (0, 48), (0, 49), (0, 6), (0, 8)] [27, 30, 31, 32] σ σ8 := f_Mo_longCode e8
      obtain ⟨_, h⟩ := gd_some h
      exact fr_lf f8 h
    rw [if_neg d6_0] at h
    by_cases d6_1 : x1 = 1
    · rw [if_pos d6_1] at h
      obtain ⟨v9, σ9, e9, h⟩ := am_bd_some h
      have f9 : FR [(0, 38), (0, 47), (0, 48), (0, 49), (0, 6), (0, 8)] [27, 30, 31, 32] σ σ9 := fr_up (f_Mo_row e9) (by decide) (fun _ h9 => h9)
      obtain ⟨_, h⟩ := gd_some h
      exact fr_lf f9 h
    rw [if_neg d6_1] at h
    by_cases d6_2 : x1 = 2
    · rw [if_pos d6_2] at h
      obtain ⟨v12, σ12, e12, h⟩ := am_bd_some h
      have f12 : FR [(0, 38), (0, 47), (0, 48), (0, 49), (0, 6), (0, 8)] [27, 30, 31, 32] σ σ12 := fr_up (f_Mo_leb e12) (by decide) (by decide)
      by_cases c17 : (σ12.1.1 0 8) = 0
      · rw [if_pos c17] at h
        exact fr_tr (fr_fl f12 (List.mem_of_getElem? (i := 1) rfl)) (f_Mo_code_161 h)
      · rw [if_neg c17] at h
        exact fr_tr (fr_fl f12 (List.mem_of_getElem? (i := 1) rfl)) (f_Mo_code_161 h)
    rw [if_neg d6_2] at h
    by_cases d6_3 : x1 = 3
    · rw [if_pos d6_3] at h
      obtain ⟨v12, σ12, e12, h⟩ := am_bd_some h
      have f12 : FR [(0, 38), (0, 47), (0, 48), (0, 49), (0, 6), (0, 8)] [27, 30, 31, 32] σ σ12 := fr_up (f_Mo_leb e12) (by decide) (by decide)
      by_cases c18 : (σ12.1.1 0 8) = 0
      · rw [if_pos c18] at h
        exact fr_tr (fr_fi f12 (List.mem_of_getElem? (i := 3) rfl)) (f_Mo_code_189 h)
      · rw [if_neg c18] at h
        exact fr_tr (fr_fi f12 (List.mem_of_getElem? (i := 3) rfl)) (f_Mo_code_189 h)
    rw [if_neg d6_3] at h
    by_cases d6_4 : x1 = 4
    · rw [if_pos d6_4] at h
      obtain ⟨v10, σ10, e10, h⟩ := am_bd_some h
      have f10 : FR [(0, 38), (0, 47), (0, 48), (0, 49), (0, 6), (0, 8)] [27, 30, 31, 32] σ σ10 := fr_up (f_Mo_leb e10) (by decide) (by decide)
      by_cases c14 : (σ10.1.1 0 8) = 0
      · rw [if_pos c14] at h
        exact fr_tr (fr_fl f10 (List.mem_of_getElem? (i := 2) rfl)) (f_Mo_code_211 h)
      · rw [if_neg c14] at h
        exact fr_tr (fr_fl f10 (List.mem_of_getElem? (i := 2) rfl)) (f_Mo_code_211 h)
    rw [if_neg d6_4] at h
    by_cases d6_5 : x1 = 6
    · rw [if_pos d6_5] at h
      exact f_Mo_code_212 h
    rw [if_neg d6_5] at h
    by_cases d6_6 : x1 = 7
    · rw [if_pos d6_6] at h
      exact f_Mo_code_212 h
    rw [if_neg d6_6] at h
    by_cases d6_7 : x1 = 8
    · rw [if_pos d6_7] at h
      obtain ⟨_, h⟩ := gd_some h
      exact fr_lf (fr_fl fr_rf (List.mem_of_getElem? (i := 1) rfl)) h
    rw [if_neg d6_7] at h
    by_cases d6_8 : x1 = 9
    · rw [if_pos d6_8] at h
      obtain ⟨v12, σ12, e12, h⟩ := am_bd_some h
      have f12 : FR [(0, 38), (0, 47), (0, 48), (0, 49), (0, 6), (0, 8)] [27, 30, 31, 32] σ σ12 := fr_up (f_Mo_u e12) (by decide) (by decide)
      by_cases c17 : (σ12.1.1 0 8) = 0
      · rw [if_pos c17] at h
        exact fr_tr (fr_fl f12 (List.mem_of_getElem? (i := 1) rfl)) (f_Mo_code_265 h)
      · rw [if_neg c17] at h
        exact fr_tr (fr_fl f12 (List.mem_of_getElem? (i := 1) rfl)) (f_Mo_code_265 h)
    rw [if_neg d6_8] at h
    by_cases d6_9 : x1 = 10
    · rw [if_pos d6_9] at h
      exact f_Mo_code_212 h
    rw [if_neg d6_9] at h
    by_cases d6_10 : x1 = 11
    · rw [if_pos d6_10] at h
      exact f_Mo_code_212 h
    rw [if_neg d6_10] at h
    exact f_Mo_code_266 h
  · rw [if_neg c4] at h
    obtain ⟨_, h⟩ := gd_some h
    obtain ⟨_, h⟩ := gd_some h
    obtain ⟨v35, σ35, e35, h⟩ := am_bd_some h
    have f35 : FR [(0, 38), (0, 47), (0, 48), (0, 49), (0, 6), (0, 8)] [27, 30, 31, 32] σ σ35 := fr_tr (fr_fi (fr_fl fr_rf (List.mem_of_getElem? (i := 1) rfl)) (List.mem_of_getElem? (i := 3) rfl)) (fr_up (f_Mo_row e35) (by decide) (fun _ h9 => h9))
    obtain ⟨_, h⟩ := gd_some h
    exact fr_lf f35 h
theorem f_Mo_code {x1 : Int32} {σ σ' : am_S} {r : Int32} (h : g_Mo_code x1 σ = some (r, σ')) : FR [(0, 38), (0, 47), (0, 48), (0, 49), (0, 6), (0, 8)] [27, 30, 31, 32] σ σ' := f_Mo_code_0 h
set_option maxHeartbeats 4000000 in
theorem f_Mo_readLines_46 {σ σ' : am_S} {r : Int32} (h : g_Mo_readLines_46 σ = some (r, σ')) : FR [(0, 38), (0, 47), (0, 48), (0, 49), (0, 50), (0, 51), (0, 52), (0, 53), (0, 6), (0, 7), (0, 8)] [25, 26, 27, 29, 30, 31, 32] σ σ' := by
  unfold g_Mo_readLines_46 at h
  exact fr_lf fr_rf h
set_option maxHeartbeats 4000000 in
theorem f_Mo_readLines_159 {σ σ' : am_S} {r : Int32} (h : g_Mo_readLines_159 σ = some (r, σ')) : FR [(0, 38), (0, 47), (0, 48), (0, 49), (0, 50), (0, 51), (0, 52), (0, 53), (0, 6), (0, 7), (0, 8)] [25, 26, 27, 29, 30, 31, 32] σ σ' := by
  unfold g_Mo_readLines_159 at h
  exact fr_lf fr_rf h
set_option maxHeartbeats 4000000 in
theorem f_Mo_readLines_409 {y0 : Int32} {σ σ' : am_S} {r : Int32} (h : g_Mo_readLines_409 y0 σ = some (r, σ')) : FR [(0, 38), (0, 47), (0, 48), (0, 49), (0, 50), (0, 51), (0, 52), (0, 53), (0, 6), (0, 7), (0, 8)] [25, 26, 27, 29, 30, 31, 32] σ σ' := by
  unfold g_Mo_readLines_409 at h
  obtain ⟨_, h⟩ := gd_some h
  exact fr_lf fr_rf h
set_option maxHeartbeats 4000000 in
theorem f_Mo_readLines_408 {σ σ' : am_S} {r : Int32} (h : g_Mo_readLines_408 σ = some (r, σ')) : FR [(0, 38), (0, 47), (0, 48), (0, 49), (0, 50), (0, 51), (0, 52), (0, 53), (0, 6), (0, 7), (0, 8)] [25, 26, 27, 29, 30, 31, 32] σ σ' := by
  unfold g_Mo_readLines_408 at h
  exact f_Mo_readLines_409 h
set_option maxHeartbeats 4000000 in
theorem f_Mo_readLines_392 {x4 : Int32} {σ σ' : am_S} {r : Int32} (h : g_Mo_readLines_392 x4 σ = some (r, σ')) : FR [(0, 38), (0, 47), (0, 48), (0, 49), (0, 50), (0, 51), (0, 52), (0, 53), (0, 6), (0, 7), (0, 8)] [25, 26, 27, 29, 30, 31, 32] σ σ' := by
  unfold g_Mo_readLines_392 at h
  by_cases c2 : x4 = 0
  · rw [if_pos c2] at h
    exact f_Mo_readLines_408 h
  · rw [if_neg c2] at h
    by_cases c5 : (σ.1.1 0 8) = 0
    · rw [if_pos c5] at h
      exact f_Mo_readLines_409 h
    · rw [if_neg c5] at h
      exact f_Mo_readLines_408 h
set_option maxHeartbeats 4000000 in
theorem f_Mo_readLines_357 : ∀ (n : Nat) {x4 : Int32} {σ σ' : am_S} {r : Int32} (h : g_Mo_readLines_357 n x4 σ = some (r, σ')), FR [(0, 38), (0, 47), (0, 48), (0, 49), (0, 50), (0, 51), (0, 52), (0, 53), (0, 6), (0, 7), (0, 8)] [25, 26, 27, 29, 30, 31, 32] σ σ' := by
  intro n
  induction n with
  | zero =>
    intro x4 σ σ' r h
    cases h
  | succ n ih =>
  intro x4 σ σ' r h
  unfold g_Mo_readLines_357 at h
  by_cases c2 : x4 = 0
  · rw [if_pos c2] at h
    exact f_Mo_readLines_392 h
  · rw [if_neg c2] at h
    by_cases c7 : (σ.1.1 0 6) < (σ.1.1 0 7)
    · rw [if_pos c7] at h
      obtain ⟨v10, σ10, e10, h⟩ := am_bd_some h
      have f10 : FR [(0, 38), (0, 47), (0, 48), (0, 49), (0, 50), (0, 51), (0, 52), (0, 53), (0, 6), (0, 7), (0, 8)] [25, 26, 27, 29, 30, 31, 32] σ σ10 := fr_up (f_Mo_u e10) (by decide) (by decide)
      obtain ⟨v15, σ15, e15, h⟩ := am_bd_some h
      have f15 : FR [(0, 38), (0, 47), (0, 48), (0, 49), (0, 50), (0, 51), (0, 52), (0, 53), (0, 6), (0, 7), (0, 8)] [25, 26, 27, 29, 30, 31, 32] σ σ15 := fr_tr f10 (fr_up (f_Mo_code e15) (by decide) (by decide))
      exact fr_tr f15 (ih h)
    · rw [if_neg c7] at h
      exact f_Mo_readLines_392 h
set_option maxHeartbeats 4000000 in
theorem f_Mo_readLines_345 {x7 : Int32} {y0 : Int32} {σ σ' : am_S} {r : Int32} (h : g_Mo_readLines_345 x7 y0 σ = some (r, σ')) : FR [(0, 38), (0, 47), (0, 48), (0, 49), (0, 50), (0, 51), (0, 52), (0, 53), (0, 6), (0, 7), (0, 8)] [25, 26, 27, 29, 30, 31, 32] σ σ' := by
  unfold g_Mo_readLines_345 at h
  obtain ⟨v3, σ3, e3, h⟩ := am_bd_some h
  have f3 : FR [(0, 38), (0, 47), (0, 48), (0, 49), (0, 50), (0, 51), (0, 52), (0, 53), (0, 6), (0, 7), (0, 8)] [25, 26, 27, 29, 30, 31, 32] σ σ3 := fr_up (f_Mo_begin e3) (by decide) (by decide)
  exact fr_tr (fr_fi f3 (List.mem_of_getElem? (i := 8) rfl)) (f_Mo_readLines_357 4000 h)
set_option maxHeartbeats 4000000 in
theorem f_Mo_readLines_344 {x7 : Int32} {σ σ' : am_S} {r : Int32} (h : g_Mo_readLines_344 x7 σ = some (r, σ')) : FR [(0, 38), (0, 47), (0, 48), (0, 49), (0, 50), (0, 51), (0, 52), (0, 53), (0, 6), (0, 7), (0, 8)] [25, 26, 27, 29, 30, 31, 32] σ σ' := by
  unfold g_Mo_readLines_344 at h
  exact f_Mo_readLines_345 h
set_option maxHeartbeats 4000000 in
theorem f_Mo_readLines_306 {x1 : Int32} {x7 : Int32} {y0 : Int32} {σ σ' : am_S} {r : Int32} (h : g_Mo_readLines_306 x1 x7 y0 σ = some (r, σ')) : FR [(0, 38), (0, 47), (0, 48), (0, 49), (0, 50), (0, 51), (0, 52), (0, 53), (0, 6), (0, 7), (0, 8)] [25, 26, 27, 29, 30, 31, 32] σ σ' := by
  unfold g_Mo_readLines_306 at h
  by_cases c3 : y0 = 0
  · rw [if_pos c3] at h
    exact f_Mo_readLines_344 h
  · rw [if_neg c3] at h
    obtain ⟨v7, σ7, e7, h⟩ := am_bd_some h
    have f7 : FR [(0, 38), (0, 47), (0, 48), (0, 49), (0, 50), (0, 51), (0, 52), (0, 53), (0, 6), (0, 7), (0, 8)] [25, 26, 27, 29, 30, 31, 32] σ σ7 := fr_up (f_Mo_readTable e7) (by decide) (by decide)
    by_cases c8 : v7 = 0
    · rw [if_pos c8] at h
      exact fr_tr f7 (f_Mo_readLines_344 h)
    · rw [if_neg c8] at h
      obtain ⟨v12, σ12, e12, h⟩ := am_bd_some h
      have f12 : FR [(0, 38), (0, 47), (0, 48), (0, 49), (0, 50), (0, 51), (0, 52), (0, 53), (0, 6), (0, 7), (0, 8)] [25, 26, 27, 29, 30, 31, 32] σ σ12 := fr_tr f7 (fr_up (f_Mo_readTable e12) (by decide) (by decide))
      by_cases c13 : v12 = 0
      · rw [if_pos c13] at h
        exact fr_tr f12 (f_Mo_readLines_344 h)
      · rw [if_neg c13] at h
        by_cases c17 : x7 < (σ12.1.1 0 6)
        · rw [if_pos c17] at h
          exact fr_tr f12 (f_Mo_readLines_344 h)
        · rw [if_neg c17] at h
          exact fr_tr f12 (f_Mo_readLines_345 h)
set_option maxHeartbeats 4000000 in
theorem f_Mo_readLines_305 {x1 : Int32} {x7 : Int32} {σ σ' : am_S} {r : Int32} (h : g_Mo_readLines_305 x1 x7 σ = some (r, σ')) : FR [(0, 38), (0, 47), (0, 48), (0, 49), (0, 50), (0, 51), (0, 52), (0, 53), (0, 6), (0, 7), (0, 8)] [25, 26, 27, 29, 30, 31, 32] σ σ' := by
  unfold g_Mo_readLines_305 at h
  exact f_Mo_readLines_306 h
set_option maxHeartbeats 4000000 in
theorem f_Mo_readLines_208 {x1 : Int32} {x7 : Int32} {y0 : Int32} {σ σ' : am_S} {r : Int32} (h : g_Mo_readLines_208 x1 x7 y0 σ = some (r, σ')) : FR [(0, 38), (0, 47), (0, 48), (0, 49), (0, 50), (0, 51), (0, 52), (0, 53), (0, 6), (0, 7), (0, 8)] [25, 26, 27, 29, 30, 31, 32] σ σ' := by
  unfold g_Mo_readLines_208 at h
  obtain ⟨v4, σ4, e4, h⟩ := am_bd_some h
  have f4 : FR [(0, 38), (0, 47), (0, 48), (0, 49), (0, 50), (0, 51), (0, 52), (0, 53), (0, 6), (0, 7), (0, 8)] [25, 26, 27, 29, 30, 31, 32] σ σ4 := fr_up (f_Mo_pass e4) (by decide) (by decide)
  obtain ⟨v8, σ8, e8, h⟩ := am_bd_some h
  have f8 : FR [(0, 38), (0, 47), (0, 48), (0, 49), (0, 50), (0, 51), (0, 52), (0, 53), (0, 6), (0, 7), (0, 8)] [25, 26, 27, 29, 30, 31, 32] σ σ8 := fr_tr f4 (fr_up (f_Mo_u e8) (by decide) (by decide))
  obtain ⟨v15, σ15, e15, h⟩ := am_bd_some h
  have f15 : FR [(0, 38), (0, 47), (0, 48), (0, 49), (0, 50), (0, 51), (0, 52), (0, 53), (0, 6), (0, 7), (0, 8)] [25, 26, 27, 29, 30, 31, 32] σ σ15 := fr_tr (fr_fi f8 (List.mem_of_getElem? (i := 6) rfl)) (fr_up (f_Mo_u e15) (by decide) (by decide))
  obtain ⟨v21, σ21, e21, h⟩ := am_bd_some h
  have f21 : FR [(0, 38), (0, 47), (0, 48), (0, 49), (0, 50), (0, 51), (0, 52), (0, 53), (0, 6), (0, 7), (0, 8)] [25, 26, 27, 29, 30, 31, 32] σ σ21 := fr_tr (fr_fi f15 (List.mem_of_getElem? (i := 7) rfl)) (fr_up (f_Mo_u e21) (by decide) (by decide))
  obtain ⟨v34, σ34, e34, h⟩ := am_bd_some h
  have f34 : FR [(0, 38), (0, 47), (0, 48), (0, 49), (0, 50), (0, 51), (0, 52), (0, 53), (0, 6), (0, 7), (0, 8)] [25, 26, 27, 29, 30, 31, 32] σ σ34 := fr_tr (fr_fi (fr_fi f21 (List.mem_of_getElem? (i := 4) rfl)) (List.mem_of_getElem? (i := 5) rfl)) (fr_up (f_Mo_pass e34) (by decide) (by decide))
  by_cases c36 : y0 = 0
  · rw [if_pos c36] at h
    exact fr_tr f34 (f_Mo_readLines_305 h)
  · rw [if_neg c36] at h
    by_cases c39 : (σ34.1.1 0 8) = 0
    · rw [if_pos c39] at h
      by_cases c42 : 0 < (σ34.1.1 0 53)
      · rw [if_pos c42] at h
        obtain ⟨v48, σ48, e48, h⟩ := am_bd_some h
        have f48 : FR [(0, 38), (0, 47), (0, 48), (0, 49), (0, 50), (0, 51), (0, 52), (0, 53), (0, 6), (0, 7), (0, 8)] [25, 26, 27, 29, 30, 31, 32] σ σ48 := fr_tr f34 (fr_up (f_Mo_in e48) (fun _ h9 => (by cases h9)) (fun _ h9 => (by cases h9)))
        by_cases c49 : v48 = 0
        · rw [if_pos c49] at h
          exact fr_tr f48 (f_Mo_readLines_305 h)
        · rw [if_neg c49] at h
          exact fr_tr f48 (f_Mo_readLines_306 h)
      · rw [if_neg c42] at h
        exact fr_tr f34 (f_Mo_readLines_305 h)
    · rw [if_neg c39] at h
      exact fr_tr f34 (f_Mo_readLines_305 h)
set_option maxHeartbeats 4000000 in
theorem f_Mo_readLines_207 {x1 : Int32} {x7 : Int32} {σ σ' : am_S} {r : Int32} (h : g_Mo_readLines_207 x1 x7 σ = some (r, σ')) : FR [(0, 38), (0, 47), (0, 48), (0, 49), (0, 50), (0, 51), (0, 52), (0, 53), (0, 6), (0, 7), (0, 8)] [25, 26, 27, 29, 30, 31, 32] σ σ' := by
  unfold g_Mo_readLines_207 at h
  exact f_Mo_readLines_208 h
set_option maxHeartbeats 4000000 in
theorem f_Mo_readLines_186 {x1 : Int32} {x7 : Int32} {y0 : Int32} {σ σ' : am_S} {r : Int32} (h : g_Mo_readLines_186 x1 x7 y0 σ = some (r, σ')) : FR [(0, 38), (0, 47), (0, 48), (0, 49), (0, 50), (0, 51), (0, 52), (0, 53), (0, 6), (0, 7), (0, 8)] [25, 26, 27, 29, 30, 31, 32] σ σ' := by
  unfold g_Mo_readLines_186 at h
  obtain ⟨v4, σ4, e4, h⟩ := am_bd_some h
  have f4 : FR [(0, 38), (0, 47), (0, 48), (0, 49), (0, 50), (0, 51), (0, 52), (0, 53), (0, 6), (0, 7), (0, 8)] [25, 26, 27, 29, 30, 31, 32] σ σ4 := fr_up (f_Mo_u e4) (by decide) (by decide)
  by_cases c7 : (lg_cmp v4 1) = 0
  · rw [if_pos c7] at h
    by_cases c9 : y0 = 0
    · rw [if_pos c9] at h
      exact fr_tr f4 (f_Mo_readLines_207 h)
    · rw [if_neg c9] at h
      exact fr_tr f4 (f_Mo_readLines_208 h)
  · rw [if_neg c7] at h
    exact fr_tr f4 (f_Mo_readLines_207 h)
set_option maxHeartbeats 4000000 in
theorem f_Mo_readLines_122 {x1 : Int32} {y0 : Int32} {σ σ' : am_S} {r : Int32} (h : g_Mo_readLines_122 x1 y0 σ = some (r, σ')) : FR [(0, 38), (0, 47), (0, 48), (0, 49), (0, 50), (0, 51), (0, 52), (0, 53), (0, 6), (0, 7), (0, 8)] [25, 26, 27, 29, 30, 31, 32] σ σ' := by
  unfold g_Mo_readLines_122 at h
  obtain ⟨v4, σ4, e4, h⟩ := am_bd_some h
  have f4 : FR [(0, 38), (0, 47), (0, 48), (0, 49), (0, 50), (0, 51), (0, 52), (0, 53), (0, 6), (0, 7), (0, 8)] [25, 26, 27, 29, 30, 31, 32] σ σ4 := fr_up (f_Mo_u e4) (by decide) (by decide)
  by_cases c8 : (σ4.1.1 0 8) = 0
  · rw [if_pos c8] at h
    by_cases c10 : y0 = 0
    · rw [if_pos c10] at h
      exact fr_tr f4 (f_Mo_readLines_159 h)
    · rw [if_neg c10] at h
      by_cases c19 : 0 < (lg_cmp v4 (((σ4.1.1 0 7) - (σ4.1.1 0 6)).toInt64))
      · rw [if_pos c19] at h
        exact fr_tr f4 (f_Mo_readLines_159 h)
      · rw [if_neg c19] at h
        obtain ⟨v28, σ28, e28, h⟩ := am_bd_some h
        have f28 : FR [(0, 38), (0, 47), (0, 48), (0, 49), (0, 50), (0, 51), (0, 52), (0, 53), (0, 6), (0, 7), (0, 8)] [25, 26, 27, 29, 30, 31, 32] σ σ28 := fr_tr f4 (fr_up (f_Mo_u e28) (by decide) (by decide))
        by_cases c31 : (lg_cmp v28 1) = 0
        · rw [if_pos c31] at h
          exact fr_tr f28 (f_Mo_readLines_186 h)
        · rw [if_neg c31] at h
          exact fr_tr f28 (f_Mo_readLines_186 h)
  · rw [if_neg c8] at h
    exact fr_tr f4 (f_Mo_readLines_159 h)
set_option maxHeartbeats 4000000 in
theorem f_Mo_readLines_121 {x1 : Int32} {σ σ' : am_S} {r : Int32} (h : g_Mo_readLines_121 x1 σ = some (r, σ')) : FR [(0, 38), (0, 47), (0, 48), (0, 49), (0, 50), (0, 51), (0, 52), (0, 53), (0, 6), (0, 7), (0, 8)] [25, 26, 27, 29, 30, 31, 32] σ σ' := by
  unfold g_Mo_readLines_121 at h
  exact f_Mo_readLines_122 h
set_option maxHeartbeats 4000000 in
theorem f_Mo_readLines_100 {x1 : Int32} {y0 : Int32} {σ σ' : am_S} {r : Int32} (h : g_Mo_readLines_100 x1 y0 σ = some (r, σ')) : FR [(0, 38), (0, 47), (0, 48), (0, 49), (0, 50), (0, 51), (0, 52), (0, 53), (0, 6), (0, 7), (0, 8)] [25, 26, 27, 29, 30, 31, 32] σ σ' := by
  unfold g_Mo_readLines_100 at h
  obtain ⟨v4, σ4, e4, h⟩ := am_bd_some h
  have f4 : FR [(0, 38), (0, 47), (0, 48), (0, 49), (0, 50), (0, 51), (0, 52), (0, 53), (0, 6), (0, 7), (0, 8)] [25, 26, 27, 29, 30, 31, 32] σ σ4 := fr_up (f_Mo_u e4) (by decide) (by decide)
  by_cases c7 : (lg_cmp v4 0) = 0
  · rw [if_pos c7] at h
    by_cases c9 : y0 = 0
    · rw [if_pos c9] at h
      exact fr_tr f4 (f_Mo_readLines_121 h)
    · rw [if_neg c9] at h
      exact fr_tr f4 (f_Mo_readLines_122 h)
  · rw [if_neg c7] at h
    exact fr_tr f4 (f_Mo_readLines_121 h)
set_option maxHeartbeats 4000000 in
theorem f_Mo_readLines_99 {x1 : Int32} {σ σ' : am_S} {r : Int32} (h : g_Mo_readLines_99 x1 σ = some (r, σ')) : FR [(0, 38), (0, 47), (0, 48), (0, 49), (0, 50), (0, 51), (0, 52), (0, 53), (0, 6), (0, 7), (0, 8)] [25, 26, 27, 29, 30, 31, 32] σ σ' := by
  unfold g_Mo_readLines_99 at h
  exact f_Mo_readLines_100 h
set_option maxHeartbeats 4000000 in
theorem f_Mo_readLines_76 {x1 : Int32} {y0 : Int32} {σ σ' : am_S} {r : Int32} (h : g_Mo_readLines_76 x1 y0 σ = some (r, σ')) : FR [(0, 38), (0, 47), (0, 48), (0, 49), (0, 50), (0, 51), (0, 52), (0, 53), (0, 6), (0, 7), (0, 8)] [25, 26, 27, 29, 30, 31, 32] σ σ' := by
  unfold g_Mo_readLines_76 at h
  obtain ⟨v4, σ4, e4, h⟩ := am_bd_some h
  have f4 : FR [(0, 38), (0, 47), (0, 48), (0, 49), (0, 50), (0, 51), (0, 52), (0, 53), (0, 6), (0, 7), (0, 8)] [25, 26, 27, 29, 30, 31, 32] σ σ4 := fr_up (f_Mo_u e4) (by decide) (by decide)
  by_cases c7 : (lg_cmp v4 8) = 0
  · rw [if_pos c7] at h
    by_cases c9 : y0 = 0
    · rw [if_pos c9] at h
      exact fr_tr f4 (f_Mo_readLines_99 h)
    · rw [if_neg c9] at h
      exact fr_tr f4 (f_Mo_readLines_100 h)
  · rw [if_neg c7] at h
    exact fr_tr f4 (f_Mo_readLines_99 h)
set_option maxHeartbeats 4000000 in
theorem f_Mo_readLines_0 {x1 : Int32} {σ σ' : am_S} {r : Int32} (h : g_Mo_readLines x1 σ = some (r, σ')) : FR [(0, 38), (0, 47), (0, 48), (0, 49), (0, 50), (0, 51), (0, 52), (0, 53), (0, 6), (0, 7), (0, 8)] [25, 26, 27, 29, 30, 31, 32] σ σ' := by
  unfold g_Mo_readLines at h
  obtain ⟨_, h⟩ := gd_some h
  obtain ⟨v9, σ9, e9, h⟩ := am_bd_some h
  have f9 : FR [(0, 38), (0, 47), (0, 48), (0, 49), (0, 50), (0, 51), (0, 52), (0, 53), (0, 6), (0, 7), (0, 8)] [25, 26, 27, 29, 30, 31, 32] σ σ9 := fr_up (f_Mo_valueAt e9) (fun _ h9 => (by cases h9)) (fun _ h9 => (by cases h9))
  obtain ⟨v10, σ10, e10, h⟩ := am_bd_some h
  have f10 : FR [(0, 38), (0, 47), (0, 48), (0, 49), (0, 50), (0, 51), (0, 52), (0, 53), (0, 6), (0, 7), (0, 8)] [25, 26, 27, 29, 30, 31, 32] σ σ10 := fr_tr f9 (fr_up (f_Mo_enter e10) (by decide) (by decide))
  obtain ⟨v13, σ13, e13, h⟩ := am_bd_some h
  have f13 : FR [(0, 38), (0, 47), (0, 48), (0, 49), (0, 50), (0, 51), (0, 52), (0, 53), (0, 6), (0, 7), (0, 8)] [25, 26, 27, 29, 30, 31, 32] σ σ13 := fr_tr f10 (fr_up (f_Mo_u e13) (by decide) (by decide))
  by_cases c17 : (σ13.1.1 0 8) = 0
  · rw [if_pos c17] at h
    by_cases c26 : 0 < (lg_cmp v13 (((σ13.1.1 0 7) - (σ13.1.1 0 6)).toInt64))
    · rw [if_pos c26] at h
      exact fr_tr f13 (f_Mo_readLines_46 h)
    · rw [if_neg c26] at h
      obtain ⟨v36, σ36, e36, h⟩ := am_bd_some h
      have f36 : FR [(0, 38), (0, 47), (0, 48), (0, 49), (0, 50), (0, 51), (0, 52), (0, 53), (0, 6), (0, 7), (0, 8)] [25, 26, 27, 29, 30, 31, 32] σ σ36 := fr_tr (fr_fi f13 (List.mem_of_getElem? (i := 9) rfl)) (fr_up (f_Mo_u e36) (by decide) (by decide))
      by_cases c39 : (lg_cmp v36 5) = 0
      · rw [if_pos c39] at h
        exact fr_tr f36 (f_Mo_readLines_76 h)
      · rw [if_neg c39] at h
        exact fr_tr f36 (f_Mo_readLines_76 h)
  · rw [if_neg c17] at h
    exact fr_tr f13 (f_Mo_readLines_46 h)
theorem f_Mo_readLines {x1 : Int32} {σ σ' : am_S} {r : Int32} (h : g_Mo_readLines x1 σ = some (r, σ')) : FR [(0, 38), (0, 47), (0, 48), (0, 49), (0, 50), (0, 51), (0, 52), (0, 53), (0, 6), (0, 7), (0, 8)] [25, 26, 27, 29, 30, 31, 32] σ σ' := f_Mo_readLines_0 h
set_option maxHeartbeats 4000000 in
theorem f_Mo_readAllLines_61 {x2 : Int32} {y0 : Int32} {σ σ' : am_S} {r : Int32} {go : Int32 → Int32 → am_S → Option (Int32 × am_S)} (hgo : ∀ {x1 : Int32} {x2 : Int32} {σ σ' : am_S} {r : Int32}, go x1 x2 σ = some (r, σ') → FR [(0, 38), (0, 47), (0, 48), (0, 49), (0, 50), (0, 51), (0, 52), (0, 53), (0, 6), (0, 7), (0, 8)] [25, 26, 27, 28, 29, 30, 31, 32] σ σ') (h : g_Mo_readAllLines_61 go x2 y0 σ = some (r, σ')) : FR [(0, 38), (0, 47), (0, 48), (0, 49), (0, 50), (0, 51), (0, 52), (0, 53), (0, 6), (0, 7), (0, 8)] [25, 26, 27, 28, 29, 30, 31, 32] σ σ' := by
  unfold g_Mo_readAllLines_61 at h
  exact hgo h
set_option maxHeartbeats 4000000 in
theorem f_Mo_readAllLines_56 {x2 : Int32} {σ σ' : am_S} {r : Int32} {go : Int32 → Int32 → am_S → Option (Int32 × am_S)} (hgo : ∀ {x1 : Int32} {x2 : Int32} {σ σ' : am_S} {r : Int32}, go x1 x2 σ = some (r, σ') → FR [(0, 38), (0, 47), (0, 48), (0, 49), (0, 50), (0, 51), (0, 52), (0, 53), (0, 6), (0, 7), (0, 8)] [25, 26, 27, 28, 29, 30, 31, 32] σ σ') (h : g_Mo_readAllLines_56 go x2 σ = some (r, σ')) : FR [(0, 38), (0, 47), (0, 48), (0, 49), (0, 50), (0, 51), (0, 52), (0, 53), (0, 6), (0, 7), (0, 8)] [25, 26, 27, 28, 29, 30, 31, 32] σ σ' := by
  unfold g_Mo_readAllLines_56 at h
  exact f_Mo_readAllLines_61 hgo h
set_option maxHeartbeats 4000000 in
theorem f_Mo_readAllLines_68 {x1 : Int32} {σ σ' : am_S} {r : Int32} (h : g_Mo_readAllLines_68 x1 σ = some (r, σ')) : FR [(0, 38), (0, 47), (0, 48), (0, 49), (0, 50), (0, 51), (0, 52), (0, 53), (0, 6), (0, 7), (0, 8)] [25, 26, 27, 28, 29, 30, 31, 32] σ σ' := by
  unfold g_Mo_readAllLines_68 at h
  obtain ⟨_, h⟩ := gd_some h
  obtain ⟨_, h⟩ := gd_some h
  exact fr_lf (fr_ai fr_rf (List.mem_of_getElem? (i := 3) rfl)) h
set_option maxHeartbeats 4000000 in
theorem f_Mo_readAllLines_4 : ∀ (n : Nat) {x1 : Int32} {x2 : Int32} {σ σ' : am_S} {r : Int32} (h : g_Mo_readAllLines_4 n x1 x2 σ = some (r, σ')), FR [(0, 38), (0, 47), (0, 48), (0, 49), (0, 50), (0, 51), (0, 52), (0, 53), (0, 6), (0, 7), (0, 8)] [25, 26, 27, 28, 29, 30, 31, 32] σ σ' := by
  intro n
  induction n with
  | zero =>
    intro x1 x2 σ σ' r h
    cases h
  | succ n ih =>
  intro x1 x2 σ σ' r h
  unfold g_Mo_readAllLines_4 at h
  by_cases c4 : x2 < (σ.1.1 0 21)
  · rw [if_pos c4] at h
    by_cases c6 : x1 = 0
    · rw [if_pos c6] at h
      exact f_Mo_readAllLines_68 h
    · rw [if_neg c6] at h
      obtain ⟨_, h⟩ := gd_some h
      obtain ⟨_, h⟩ := gd_some h
      obtain ⟨_, h⟩ := gd_some h
      obtain ⟨v24, σ24, e24, h⟩ := am_bd_some h
      have f24 : FR [(0, 38), (0, 47), (0, 48), (0, 49), (0, 50), (0, 51), (0, 52), (0, 53), (0, 6), (0, 7), (0, 8)] [25, 26, 27, 28, 29, 30, 31, 32] σ σ24 := fr_tr (fr_ai (fr_ai fr_rf (List.mem_of_getElem? (i := 3) rfl)) (List.mem_of_getElem? (i := 0) rfl)) (fr_up (f_Mo_has e24) (fun _ h9 => (by cases h9)) (fun _ h9 => (by cases h9)))
      by_cases c25 : v24 = 0
      · rw [if_pos c25] at h
        exact fr_tr f24 (f_Mo_readAllLines_56 (fun h => ih h) h)
      · rw [if_neg c25] at h
        obtain ⟨v28, σ28, e28, h⟩ := am_bd_some h
        have f28 : FR [(0, 38), (0, 47), (0, 48), (0, 49), (0, 50), (0, 51), (0, 52), (0, 53), (0, 6), (0, 7), (0, 8)] [25, 26, 27, 28, 29, 30, 31, 32] σ σ28 := fr_tr f24 (fr_up (f_Mo_readLines e28) (fun _ h9 => h9) (by decide))
        by_cases c29 : v28 = 0
        · rw [if_pos c29] at h
          exact fr_tr f28 (f_Mo_readAllLines_61 (fun h => ih h) h)
        · rw [if_neg c29] at h
          exact fr_tr f28 (f_Mo_readAllLines_56 (fun h => ih h) h)
  · rw [if_neg c4] at h
    exact f_Mo_readAllLines_68 h
set_option maxHeartbeats 4000000 in
theorem f_Mo_readAllLines_0 {σ σ' : am_S} {r : Int32} (h : g_Mo_readAllLines σ = some (r, σ')) : FR [(0, 38), (0, 47), (0, 48), (0, 49), (0, 50), (0, 51), (0, 52), (0, 53), (0, 6), (0, 7), (0, 8)] [25, 26, 27, 28, 29, 30, 31, 32] σ σ' := by
  unfold g_Mo_readAllLines at h
  exact f_Mo_readAllLines_4 4000 h
theorem f_Mo_readAllLines {σ σ' : am_S} {r : Int32} (h : g_Mo_readAllLines σ = some (r, σ')) : FR [(0, 38), (0, 47), (0, 48), (0, 49), (0, 50), (0, 51), (0, 52), (0, 53), (0, 6), (0, 7), (0, 8)] [25, 26, 27, 28, 29, 30, 31, 32] σ σ' := f_Mo_readAllLines_0 h
set_option maxHeartbeats 4000000 in
theorem f_Mo_readSymbols_88 {x2 : Int32} {y0 : Int32} {σ σ' : am_S} {r : Int32} {go : Int32 → Int32 → am_S → Option (Int32 × am_S)} (hgo : ∀ {x1 : Int32} {x2 : Int32} {σ σ' : am_S} {r : Int32}, go x1 x2 σ = some (r, σ') → FR [(0, 54)] [] σ σ') (h : g_Mo_readSymbols_88 go x2 y0 σ = some (r, σ')) : FR [(0, 54)] [] σ σ' := by
  unfold g_Mo_readSymbols_88 at h
  exact hgo h
set_option maxHeartbeats 4000000 in
theorem f_Mo_readSymbols_95 {x1 : Int32} {σ σ' : am_S} {r : Int32} (h : g_Mo_readSymbols_95 x1 σ = some (r, σ')) : FR [(0, 54)] [] σ σ' := by
  unfold g_Mo_readSymbols_95 at h
  obtain ⟨_, h⟩ := gd_some h
  exact fr_lf fr_rf h
set_option maxHeartbeats 4000000 in
theorem f_Mo_readSymbols_44 : ∀ (n : Nat) {x1 : Int32} {x2 : Int32} {σ σ' : am_S} {r : Int32} (h : g_Mo_readSymbols_44 n x1 x2 σ = some (r, σ')), FR [(0, 54)] [] σ σ' := by
  intro n
  induction n with
  | zero =>
    intro x1 x2 σ σ' r h
    cases h
  | succ n ih =>
  intro x1 x2 σ σ' r h
  unfold g_Mo_readSymbols_44 at h
  by_cases c4 : x2 < (σ.1.1 0 54)
  · rw [if_pos c4] at h
    by_cases c6 : x1 = 0
    · rw [if_pos c6] at h
      exact f_Mo_readSymbols_95 h
    · rw [if_neg c6] at h
      obtain ⟨_, h⟩ := gd_some h
      obtain ⟨v19, σ19, e19, h⟩ := am_bd_some h
      have f19 : FR [(0, 54)] [] σ σ19 := fr_up (f_Mo_peek e19) (fun _ h9 => (by cases h9)) (fun _ h9 => (by cases h9))
      obtain ⟨v20, σ20, e20, h⟩ := am_bd_some h
      have f20 : FR [(0, 54)] [] σ σ20 := fr_tr f19 (fr_up (f_Mo_textIn e20) (fun _ h9 => (by cases h9)) (fun _ h9 => (by cases h9)))
      by_cases c22 : v20 = (-1)
      · rw [if_pos c22] at h
        exact fr_tr f20 (f_Mo_readSymbols_88 (fun h => ih h) h)
      · rw [if_neg c22] at h
        exact fr_tr f20 (f_Mo_readSymbols_88 (fun h => ih h) h)
  · rw [if_neg c4] at h
    exact f_Mo_readSymbols_95 h
set_option maxHeartbeats 4000000 in
theorem f_Mo_readSymbols_41 {y0 : Int32} {σ σ' : am_S} {r : Int32} (h : g_Mo_readSymbols_41 y0 σ = some (r, σ')) : FR [(0, 54)] [] σ σ' := by
  unfold g_Mo_readSymbols_41 at h
  exact f_Mo_readSymbols_44 4000 h
set_option maxHeartbeats 4000000 in
theorem f_Mo_readSymbols_40 {σ σ' : am_S} {r : Int32} (h : g_Mo_readSymbols_40 σ = some (r, σ')) : FR [(0, 54)] [] σ σ' := by
  unfold g_Mo_readSymbols_40 at h
  exact f_Mo_readSymbols_41 h
set_option maxHeartbeats 4000000 in
theorem f_Mo_readSymbols_0 {σ σ' : am_S} {r : Int32} (h : g_Mo_readSymbols σ = some (r, σ')) : FR [(0, 54)] [] σ σ' := by
  unfold g_Mo_readSymbols at h
  obtain ⟨_, h⟩ := gd_some h
  obtain ⟨_, h⟩ := gd_some h
  obtain ⟨_, h⟩ := gd_some h
  obtain ⟨_, h⟩ := gd_some h
  by_cases c15 : (((am_fi σ 0 54 ((σ.2.1 4 (8 : Int32).toNatClampNeg) / 24)).2.1 4 (8 : Int32).toNatClampNeg) - ((am_fi σ 0 54 ((σ.2.1 4 (8 : Int32).toNatClampNeg) / 24)).2.1 4 (8 : Int32).toNatClampNeg) / 24 * 24) = 0
  · rw [if_pos c15] at h
    by_cases c19 : 60 < ((σ.2.1 4 (8 : Int32).toNatClampNeg) / 24)
    · rw [if_pos c19] at h
      exact fr_tr (fr_fi fr_rf (List.mem_of_getElem? (i := 0) rfl)) (f_Mo_readSymbols_40 h)
    · rw [if_neg c19] at h
      exact fr_tr (fr_fi fr_rf (List.mem_of_getElem? (i := 0) rfl)) (f_Mo_readSymbols_41 h)
  · rw [if_neg c15] at h
    exact fr_tr (fr_fi fr_rf (List.mem_of_getElem? (i := 0) rfl)) (f_Mo_readSymbols_40 h)
theorem f_Mo_readSymbols {σ σ' : am_S} {r : Int32} (h : g_Mo_readSymbols σ = some (r, σ')) : FR [(0, 54)] [] σ σ' := f_Mo_readSymbols_0 h
