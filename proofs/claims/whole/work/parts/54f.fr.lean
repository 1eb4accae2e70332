set_option maxHeartbeats 4000000 in
theorem f_Li_readProgram_87 {x1 : Int32} {σ σ' : am_S} {r : Int32} {go : Int32 → am_S → Option (Int32 × am_S)} (hgo : ∀ {x1 : Int32} {σ σ' : am_S} {r : Int32}, go x1 σ = some (r, σ') → FR [(40, 8), (49, 12), (49, 13), (49, 14), (51, 1), (51, 3)] [41, 42, 43, 44] σ σ') (h : g_Li_readProgram_87 go x1 σ = some (r, σ')) : FR [(40, 8), (49, 12), (49, 13), (49, 14), (51, 1), (51, 3)] [41, 42, 43, 44] σ σ' := by
  unfold g_Li_readProgram_87 at h
  exact hgo h
set_option maxHeartbeats 4000000 in
theorem f_Li_readProgram_108 {y0 : Int32} {σ σ' : am_S} {r : Int32} (h : g_Li_readProgram_108 y0 σ = some (r, σ')) : FR [(40, 8), (49, 12), (49, 13), (49, 14), (51, 1), (51, 3)] [41, 42, 43, 44] σ σ' := by
  unfold g_Li_readProgram_108 at h
  obtain ⟨_, h⟩ := gd_some h
  exact fr_lf fr_rf h
set_option maxHeartbeats 4000000 in
theorem f_Li_readProgram_93 {σ σ' : am_S} {r : Int32} (h : g_Li_readProgram_93 σ = some (r, σ')) : FR [(40, 8), (49, 12), (49, 13), (49, 14), (51, 1), (51, 3)] [41, 42, 43, 44] σ σ' := by
  unfold g_Li_readProgram_93 at h
  by_cases c4 : (σ.1.1 51 3) = 0
  · rw [if_pos c4] at h
    exact f_Li_readProgram_108 h
  · rw [if_neg c4] at h
    exact f_Li_readProgram_108 h
set_option maxHeartbeats 4000000 in
theorem f_Li_readProgram_6 : ∀ (n : Nat) {x1 : Int32} {σ σ' : am_S} {r : Int32} (h : g_Li_readProgram_6 n x1 σ = some (r, σ')), FR [(40, 8), (49, 12), (49, 13), (49, 14), (51, 1), (51, 3)] [41, 42, 43, 44] σ σ' := by
  intro n
  induction n with
  | zero =>
    intro x1 σ σ' r h
    cases h
  | succ n ih =>
  intro x1 σ σ' r h
  unfold g_Li_readProgram_6 at h
  by_cases c3 : x1 < 3000
  · rw [if_pos c3] at h
    by_cases c10 : (σ.1.1 51 1) < (σ.1.1 51 2)
    · rw [if_pos c10] at h
      by_cases c14 : (σ.1.1 51 3) = 0
      · rw [if_pos c14] at h
        obtain ⟨v18, σ18, e18, h⟩ := am_bd_some h
        have f18 : FR [(40, 8), (49, 12), (49, 13), (49, 14), (51, 1), (51, 3)] [41, 42, 43, 44] σ σ18 := fr_up (f_Cu_number e18) (by decide) (by decide)
        by_cases c24 : v18.toInt32 < (σ18.1.1 49 10)
        · rw [if_pos c24] at h
          by_cases c26 : v18.toInt32 = 0
          · rw [if_pos c26] at h
            obtain ⟨v28, σ28, e28, h⟩ := am_bd_some h
            have f28 : FR [(40, 8), (49, 12), (49, 13), (49, 14), (51, 1), (51, 3)] [41, 42, 43, 44] σ σ28 := fr_tr f18 (f_Li_extended e28)
            exact fr_tr f28 (f_Li_readProgram_87 (fun h => ih h) h)
          · rw [if_neg c26] at h
            obtain ⟨v29, σ29, e29, h⟩ := am_bd_some h
            have f29 : FR [(40, 8), (49, 12), (49, 13), (49, 14), (51, 1), (51, 3)] [41, 42, 43, 44] σ σ29 := fr_tr f18 (f_Li_standard e29)
            exact fr_tr f29 (f_Li_readProgram_87 (fun h => ih h) h)
        · rw [if_neg c24] at h
          obtain ⟨v30, σ30, e30, h⟩ := am_bd_some h
          have f30 : FR [(40, 8), (49, 12), (49, 13), (49, 14), (51, 1), (51, 3)] [41, 42, 43, 44] σ σ30 := fr_tr f18 (fr_up (f_Li_special e30) (by decide) (fun _ h9 => h9))
          exact fr_tr f30 (f_Li_readProgram_87 (fun h => ih h) h)
      · rw [if_neg c14] at h
        exact f_Li_readProgram_93 h
    · rw [if_neg c10] at h
      exact f_Li_readProgram_93 h
  · rw [if_neg c3] at h
    exact f_Li_readProgram_93 h
set_option maxHeartbeats 4000000 in
theorem f_Li_readProgram_0 {σ σ' : am_S} {r : Int32} (h : g_Li_readProgram σ = some (r, σ')) : FR [(40, 8), (49, 12), (49, 13), (49, 14), (51, 1), (51, 3)] [41, 42, 43, 44] σ σ' := by
  unfold g_Li_readProgram at h
  obtain ⟨v2, σ2, e2, h⟩ := am_bd_some h
  have f2 : FR [(40, 8), (49, 12), (49, 13), (49, 14), (51, 1), (51, 3)] [41, 42, 43, 44] σ σ2 := fr_up (f_Li_restart e2) (by decide) (by decide)
  exact fr_tr f2 (f_Li_readProgram_6 4000 h)
theorem f_Li_readProgram {σ σ' : am_S} {r : Int32} (h : g_Li_readProgram σ = some (r, σ')) : FR [(40, 8), (49, 12), (49, 13), (49, 14), (51, 1), (51, 3)] [41, 42, 43, 44] σ σ' := f_Li_readProgram_0 h
set_option maxHeartbeats 4000000 in
theorem f_Li_readTable_56 {σ σ' : am_S} {r : Int32} (h : g_Li_readTable_56 σ = some (r, σ')) : FR [(40, 8), (49, 10), (49, 11), (49, 12), (49, 13), (49, 14), (49, 6), (49, 7), (49, 8), (49, 9), (51, 1), (51, 2), (51, 3), (9, 1), (9, 2), (9, 3)] [41, 42, 43, 44, 47, 48, 50] σ σ' := by
  unfold g_Li_readTable_56 at h
  exact fr_lf fr_rf h
set_option maxHeartbeats 4000000 in
theorem f_Li_readTable_119 {σ σ' : am_S} {r : Int32} (h : g_Li_readTable_119 σ = some (r, σ')) : FR [(40, 8), (49, 10), (49, 11), (49, 12), (49, 13), (49, 14), (49, 6), (49, 7), (49, 8), (49, 9), (51, 1), (51, 2), (51, 3), (9, 1), (9, 2), (9, 3)] [41, 42, 43, 44, 47, 48, 50] σ σ' := by
  unfold g_Li_readTable_119 at h
  exact fr_lf fr_rf h
set_option maxHeartbeats 4000000 in
theorem f_Li_readTable_209 {σ σ' : am_S} {r : Int32} (h : g_Li_readTable_209 σ = some (r, σ')) : FR [(40, 8), (49, 10), (49, 11), (49, 12), (49, 13), (49, 14), (49, 6), (49, 7), (49, 8), (49, 9), (51, 1), (51, 2), (51, 3), (9, 1), (9, 2), (9, 3)] [41, 42, 43, 44, 47, 48, 50] σ σ' := by
  unfold g_Li_readTable_209 at h
  exact fr_lf fr_rf h
set_option maxHeartbeats 4000000 in
theorem f_Li_readTable_174 {x8 : Int64} {y0 : Int32} {σ σ' : am_S} {r : Int32} (h : g_Li_readTable_174 x8 y0 σ = some (r, σ')) : FR [(40, 8), (49, 10), (49, 11), (49, 12), (49, 13), (49, 14), (49, 6), (49, 7), (49, 8), (49, 9), (51, 1), (51, 2), (51, 3), (9, 1), (9, 2), (9, 3)] [41, 42, 43, 44, 47, 48, 50] σ σ' := by
  unfold g_Li_readTable_174 at h
  by_cases c3 : y0 = 0
  · rw [if_pos c3] at h
    exact f_Li_readTable_209 h
  · rw [if_neg c3] at h
    by_cases c10 : (lg_cmp x8 ((σ.1.1 51 1).toInt64)) < 0
    · rw [if_pos c10] at h
      exact f_Li_readTable_209 h
    · rw [if_neg c10] at h
      by_cases c17 : 0 < (lg_cmp x8 ((σ.1.1 51 2).toInt64))
      · rw [if_pos c17] at h
        exact f_Li_readTable_209 h
      · rw [if_neg c17] at h
        obtain ⟨v24, σ24, e24, h⟩ := am_bd_some h
        have f24 : FR [(40, 8), (49, 10), (49, 11), (49, 12), (49, 13), (49, 14), (49, 6), (49, 7), (49, 8), (49, 9), (51, 1), (51, 2), (51, 3), (9, 1), (9, 2), (9, 3)] [41, 42, 43, 44, 47, 48, 50] σ σ24 := fr_tr (fr_fi fr_rf (List.mem_of_getElem? (i := 10) rfl)) (fr_up (f_Li_readProgram e24) (by decide) (by decide))
        obtain ⟨_, h⟩ := gd_some h
        exact fr_lf f24 h
set_option maxHeartbeats 4000000 in
theorem f_Li_readTable_173 {x8 : Int64} {σ σ' : am_S} {r : Int32} (h : g_Li_readTable_173 x8 σ = some (r, σ')) : FR [(40, 8), (49, 10), (49, 11), (49, 12), (49, 13), (49, 14), (49, 6), (49, 7), (49, 8), (49, 9), (51, 1), (51, 2), (51, 3), (9, 1), (9, 2), (9, 3)] [41, 42, 43, 44, 47, 48, 50] σ σ' := by
  unfold g_Li_readTable_173 at h
  exact f_Li_readTable_174 h
set_option maxHeartbeats 4000000 in
theorem f_Li_readTable_0 {x1 : Int32} {x2 : Int64} {σ σ' : am_S} {r : Int32} (h : g_Li_readTable x1 x2 σ = some (r, σ')) : FR [(40, 8), (49, 10), (49, 11), (49, 12), (49, 13), (49, 14), (49, 6), (49, 7), (49, 8), (49, 9), (51, 1), (51, 2), (51, 3), (9, 1), (9, 2), (9, 3)] [41, 42, 43, 44, 47, 48, 50] σ σ' := by
  unfold g_Li_readTable at h
  obtain ⟨v7, σ7, e7, h⟩ := am_bd_some h
  have f7 : FR [(40, 8), (49, 10), (49, 11), (49, 12), (49, 13), (49, 14), (49, 6), (49, 7), (49, 8), (49, 9), (51, 1), (51, 2), (51, 3), (9, 1), (9, 2), (9, 3)] [41, 42, 43, 44, 47, 48, 50] σ σ7 := fr_up (f_Se_point e7) (by decide) (by decide)
  obtain ⟨v11, σ11, e11, h⟩ := am_bd_some h
  have f11 : FR [(40, 8), (49, 10), (49, 11), (49, 12), (49, 13), (49, 14), (49, 6), (49, 7), (49, 8), (49, 9), (51, 1), (51, 2), (51, 3), (9, 1), (9, 2), (9, 3)] [41, 42, 43, 44, 47, 48, 50] σ σ11 := fr_tr f7 (fr_up (f_Cu_number e11) (by decide) (by decide))
  by_cases c16 : (σ11.1.1 51 3) = 0
  · rw [if_pos c16] at h
    by_cases c27 : 0 < (lg_cmp v11 (((σ11.1.1 51 2) - (σ11.1.1 51 1)).toInt64))
    · rw [if_pos c27] at h
      exact fr_tr f11 (f_Li_readTable_56 h)
    · rw [if_neg c27] at h
      obtain ⟨v40, σ40, e40, h⟩ := am_bd_some h
      have f40 : FR [(40, 8), (49, 10), (49, 11), (49, 12), (49, 13), (49, 14), (49, 6), (49, 7), (49, 8), (49, 9), (51, 1), (51, 2), (51, 3), (9, 1), (9, 2), (9, 3)] [41, 42, 43, 44, 47, 48, 50] σ σ40 := fr_tr (fr_fi f11 (List.mem_of_getElem? (i := 11) rfl)) (fr_up (f_Cu_number e40) (by decide) (by decide))
      by_cases c43 : (lg_cmp v40 5) = 0
      · rw [if_pos c43] at h
        obtain ⟨v47, σ47, e47, h⟩ := am_bd_some h
        have f47 : FR [(40, 8), (49, 10), (49, 11), (49, 12), (49, 13), (49, 14), (49, 6), (49, 7), (49, 8), (49, 9), (51, 1), (51, 2), (51, 3), (9, 1), (9, 2), (9, 3)] [41, 42, 43, 44, 47, 48, 50] σ σ47 := fr_tr f40 (fr_up (f_Cu_number e47) (by decide) (by decide))
        by_cases c50 : (lg_cmp v47 8) = 0
        · rw [if_pos c50] at h
          obtain ⟨v54, σ54, e54, h⟩ := am_bd_some h
          have f54 : FR [(40, 8), (49, 10), (49, 11), (49, 12), (49, 13), (49, 14), (49, 6), (49, 7), (49, 8), (49, 9), (51, 1), (51, 2), (51, 3), (9, 1), (9, 2), (9, 3)] [41, 42, 43, 44, 47, 48, 50] σ σ54 := fr_tr f47 (fr_up (f_Cu_number e54) (by decide) (by decide))
          by_cases c57 : (lg_cmp v54 0) = 0
          · rw [if_pos c57] at h
            obtain ⟨v61, σ61, e61, h⟩ := am_bd_some h
            have f61 : FR [(40, 8), (49, 10), (49, 11), (49, 12), (49, 13), (49, 14), (49, 6), (49, 7), (49, 8), (49, 9), (51, 1), (51, 2), (51, 3), (9, 1), (9, 2), (9, 3)] [41, 42, 43, 44, 47, 48, 50] σ σ61 := fr_tr f54 (fr_up (f_Cu_number e61) (by decide) (by decide))
            obtain ⟨v71, σ71, e71, h⟩ := am_bd_some h
            have f71 : FR [(40, 8), (49, 10), (49, 11), (49, 12), (49, 13), (49, 14), (49, 6), (49, 7), (49, 8), (49, 9), (51, 1), (51, 2), (51, 3), (9, 1), (9, 2), (9, 3)] [41, 42, 43, 44, 47, 48, 50] σ σ71 := fr_tr f61 (fr_up (f_Li_readHead e71) (by decide) (by decide))
            by_cases c72 : v71 = 0
            · rw [if_pos c72] at h
              exact fr_tr f71 (f_Li_readTable_173 h)
            · rw [if_neg c72] at h
              obtain ⟨v76, σ76, e76, h⟩ := am_bd_some h
              have f76 : FR [(40, 8), (49, 10), (49, 11), (49, 12), (49, 13), (49, 14), (49, 6), (49, 7), (49, 8), (49, 9), (51, 1), (51, 2), (51, 3), (9, 1), (9, 2), (9, 3)] [41, 42, 43, 44, 47, 48, 50] σ σ76 := fr_tr f71 (fr_up (f_Li_readNames e76) (by decide) (by decide))
              by_cases c77 : v76 = 0
              · rw [if_pos c77] at h
                exact fr_tr f76 (f_Li_readTable_173 h)
              · rw [if_neg c77] at h
                obtain ⟨v81, σ81, e81, h⟩ := am_bd_some h
                have f81 : FR [(40, 8), (49, 10), (49, 11), (49, 12), (49, 13), (49, 14), (49, 6), (49, 7), (49, 8), (49, 9), (51, 1), (51, 2), (51, 3), (9, 1), (9, 2), (9, 3)] [41, 42, 43, 44, 47, 48, 50] σ σ81 := fr_tr f76 (fr_up (f_Li_readNames e81) (by decide) (by decide))
                by_cases c82 : v81 = 0
                · rw [if_pos c82] at h
                  exact fr_tr f81 (f_Li_readTable_173 h)
                · rw [if_neg c82] at h
                  exact fr_tr f81 (f_Li_readTable_174 h)
          · rw [if_neg c57] at h
            exact fr_tr f54 (f_Li_readTable_119 h)
        · rw [if_neg c50] at h
          exact fr_tr f47 (f_Li_readTable_119 h)
      · rw [if_neg c43] at h
        exact fr_tr f40 (f_Li_readTable_119 h)
  · rw [if_neg c16] at h
    exact fr_tr f11 (f_Li_readTable_56 h)
theorem f_Li_readTable {x1 : Int32} {x2 : Int64} {σ σ' : am_S} {r : Int32} (h : g_Li_readTable x1 x2 σ = some (r, σ')) : FR [(40, 8), (49, 10), (49, 11), (49, 12), (49, 13), (49, 14), (49, 6), (49, 7), (49, 8), (49, 9), (51, 1), (51, 2), (51, 3), (9, 1), (9, 2), (9, 3)] [41, 42, 43, 44, 47, 48, 50] σ σ' := f_Li_readTable_0 h
set_option maxHeartbeats 4000000 in
theorem f_Li_read_65 {x1 : Int32} {σ σ' : am_S} {r : Int32} {go : Int32 → am_S → Option (Int32 × am_S)} (hgo : ∀ {x1 : Int32} {σ σ' : am_S} {r : Int32}, go x1 σ = some (r, σ') → FR [(40, 8), (49, 10), (49, 11), (49, 12), (49, 13), (49, 14), (49, 6), (49, 7), (49, 8), (49, 9), (51, 1), (51, 2), (51, 3), (9, 1), (9, 2), (9, 3)] [41, 42, 43, 44, 45, 46, 47, 48, 50] σ σ') (h : g_Li_read_65 go x1 σ = some (r, σ')) : FR [(40, 8), (49, 10), (49, 11), (49, 12), (49, 13), (49, 14), (49, 6), (49, 7), (49, 8), (49, 9), (51, 1), (51, 2), (51, 3), (9, 1), (9, 2), (9, 3)] [41, 42, 43, 44, 45, 46, 47, 48, 50] σ σ' := by
  unfold g_Li_read_65 at h
  obtain ⟨v4, σ4, e4, h⟩ := am_bd_some h
  have f4 : FR [(40, 8), (49, 10), (49, 11), (49, 12), (49, 13), (49, 14), (49, 6), (49, 7), (49, 8), (49, 9), (51, 1), (51, 2), (51, 3), (9, 1), (9, 2), (9, 3)] [41, 42, 43, 44, 45, 46, 47, 48, 50] σ σ4 := fr_up (f_Ro_end e4) (by decide) (by decide)
  exact fr_tr f4 (hgo h)
set_option maxHeartbeats 4000000 in
theorem f_Li_read_9 : ∀ (n : Nat) {x1 : Int32} {σ σ' : am_S} {r : Int32} (h : g_Li_read_9 n x1 σ = some (r, σ')), FR [(40, 8), (49, 10), (49, 11), (49, 12), (49, 13), (49, 14), (49, 6), (49, 7), (49, 8), (49, 9), (51, 1), (51, 2), (51, 3), (9, 1), (9, 2), (9, 3)] [41, 42, 43, 44, 45, 46, 47, 48, 50] σ σ' := by
  intro n
  induction n with
  | zero =>
    intro x1 σ σ' r h
    cases h
  | succ n ih =>
  intro x1 σ σ' r h
  unfold g_Li_read_9 at h
  by_cases c5 : x1 < (σ.1.1 10 11)
  · rw [if_pos c5] at h
    obtain ⟨v9, σ9, e9, h⟩ := am_bd_some h
    have f9 : FR [(40, 8), (49, 10), (49, 11), (49, 12), (49, 13), (49, 14), (49, 6), (49, 7), (49, 8), (49, 9), (51, 1), (51, 2), (51, 3), (9, 1), (9, 2), (9, 3)] [41, 42, 43, 44, 45, 46, 47, 48, 50] σ σ9 := fr_up (f_Ro_begin e9) (by decide) (by decide)
    obtain ⟨_, h⟩ := gd_some h
    by_cases c21 : (σ9.2.1 19 ((x1 * 4) + 0).toNatClampNeg) = 0
    · rw [if_pos c21] at h
      exact fr_tr f9 (f_Li_read_65 (fun h => ih h) h)
    · rw [if_neg c21] at h
      obtain ⟨_, h⟩ := gd_some h
      obtain ⟨v29, σ29, e29, h⟩ := am_bd_some h
      have f29 : FR [(40, 8), (49, 10), (49, 11), (49, 12), (49, 13), (49, 14), (49, 6), (49, 7), (49, 8), (49, 9), (51, 1), (51, 2), (51, 3), (9, 1), (9, 2), (9, 3)] [41, 42, 43, 44, 45, 46, 47, 48, 50] σ σ29 := fr_tr f9 (fr_up (f_Li_readTable e29) (fun _ h9 => h9) (by decide))
      by_cases c30 : v29 = 0
      · rw [if_pos c30] at h
        exact fr_lf f29 h
      · rw [if_neg c30] at h
        exact fr_tr f29 (f_Li_read_65 (fun h => ih h) h)
  · rw [if_neg c5] at h
    exact fr_lf fr_rf h
set_option maxHeartbeats 4000000 in
theorem f_Li_read_0 {σ σ' : am_S} {r : Int32} (h : g_Li_read σ = some (r, σ')) : FR [(40, 8), (49, 10), (49, 11), (49, 12), (49, 13), (49, 14), (49, 6), (49, 7), (49, 8), (49, 9), (51, 1), (51, 2), (51, 3), (9, 1), (9, 2), (9, 3)] [41, 42, 43, 44, 45, 46, 47, 48, 50] σ σ' := by
  unfold g_Li_read at h
  obtain ⟨v3, σ3, e3, h⟩ := am_bd_some h
  have f3 : FR [(40, 8), (49, 10), (49, 11), (49, 12), (49, 13), (49, 14), (49, 6), (49, 7), (49, 8), (49, 9), (51, 1), (51, 2), (51, 3), (9, 1), (9, 2), (9, 3)] [41, 42, 43, 44, 45, 46, 47, 48, 50] σ σ3 := fr_up (f_Ro_forgetAll e3) (by decide) (by decide)
  exact fr_tr f3 (f_Li_read_9 4000 h)
theorem f_Li_read {σ σ' : am_S} {r : Int32} (h : g_Li_read σ = some (r, σ')) : FR [(40, 8), (49, 10), (49, 11), (49, 12), (49, 13), (49, 14), (49, 6), (49, 7), (49, 8), (49, 9), (51, 1), (51, 2), (51, 3), (9, 1), (9, 2), (9, 3)] [41, 42, 43, 44, 45, 46, 47, 48, 50] σ σ' := f_Li_read_0 h
set_option maxHeartbeats 4000000 in
theorem f_Sy_readOne_143 {y0 : Int32} {σ σ' : am_S} {r : Int32} (h : g_Sy_readOne_143 y0 σ = some (r, σ')) : FR [(57, 1), (57, 3), (9, 1), (9, 2), (9, 3)] [53, 54, 55, 56] σ σ' := by
  unfold g_Sy_readOne_143 at h
  obtain ⟨_, h⟩ := gd_some h
  exact fr_lf fr_rf h
set_option maxHeartbeats 4000000 in
theorem f_Sy_readOne_142 {σ σ' : am_S} {r : Int32} (h : g_Sy_readOne_142 σ = some (r, σ')) : FR [(57, 1), (57, 3), (9, 1), (9, 2), (9, 3)] [53, 54, 55, 56] σ σ' := by
  unfold g_Sy_readOne_142 at h
  exact f_Sy_readOne_143 h
set_option maxHeartbeats 4000000 in
theorem f_Sy_readOne_58 {y0 : Int32} {y1 : Int32} {σ σ' : am_S} {r : Int32} (h : g_Sy_readOne_58 y0 y1 σ = some (r, σ')) : FR [(57, 1), (57, 3), (9, 1), (9, 2), (9, 3)] [53, 54, 55, 56] σ σ' := by
  unfold g_Sy_readOne_58 at h
  obtain ⟨_, h⟩ := gd_some h
  obtain ⟨v5, σ5, e5, h⟩ := am_bd_some h
  have f5 : FR [(57, 1), (57, 3), (9, 1), (9, 2), (9, 3)] [53, 54, 55, 56] σ σ5 := fr_tr (fr_ai fr_rf (List.mem_of_getElem? (i := 1) rfl)) (fr_up (f_Cu_skip e5) (by decide) (by decide))
  obtain ⟨v13, σ13, e13, h⟩ := am_bd_some h
  have f13 : FR [(57, 1), (57, 3), (9, 1), (9, 2), (9, 3)] [53, 54, 55, 56] σ σ13 := fr_tr f5 (fr_up (f_Cu_number e13) (by decide) (by decide))
  obtain ⟨_, h⟩ := gd_some h
  obtain ⟨_, h⟩ := gd_some h
  obtain ⟨v27, σ27, e27, h⟩ := am_bd_some h
  have f27 : FR [(57, 1), (57, 3), (9, 1), (9, 2), (9, 3)] [53, 54, 55, 56] σ σ27 := fr_tr (fr_al f13 (List.mem_of_getElem? (i := 2) rfl)) (fr_up (f_Cu_number e27) (by decide) (by decide))
  obtain ⟨_, h⟩ := gd_some h
  by_cases c33 : (σ27.1.1 57 3) = 0
  · rw [if_pos c33] at h
    obtain ⟨_, h⟩ := gd_some h
    by_cases c40 : ((am_al σ27 56 (σ13.1.1 52 6).toNatClampNeg (((am_al σ13 55 (σ5.1.1 52 6).toNatClampNeg v13).2.2 55 (σ13.1.1 52 6).toNatClampNeg) + v27)).2.1 53 (σ27.1.1 52 6).toNatClampNeg) = (-1)
    · rw [if_pos c40] at h
      exact fr_tr (fr_al f27 (List.mem_of_getElem? (i := 3) rfl)) (f_Sy_readOne_142 h)
    · rw [if_neg c40] at h
      exact fr_tr (fr_al f27 (List.mem_of_getElem? (i := 3) rfl)) (f_Sy_readOne_143 h)
  · rw [if_neg c33] at h
    exact fr_tr (fr_al f27 (List.mem_of_getElem? (i := 3) rfl)) (f_Sy_readOne_142 h)
set_option maxHeartbeats 4000000 in
theorem f_Sy_readOne_0 {σ σ' : am_S} {r : Int32} (h : g_Sy_readOne σ = some (r, σ')) : FR [(57, 1), (57, 3), (9, 1), (9, 2), (9, 3)] [53, 54, 55, 56] σ σ' := by
  unfold g_Sy_readOne at h
  obtain ⟨v11, σ11, e11, h⟩ := am_bd_some h
  have f11 : FR [(57, 1), (57, 3), (9, 1), (9, 2), (9, 3)] [53, 54, 55, 56] σ σ11 := fr_up (f_Cu_number e11) (by decide) (by decide)
  obtain ⟨v12, σ12, e12, h⟩ := am_bd_some h
  have f12 : FR [(57, 1), (57, 3), (9, 1), (9, 2), (9, 3)] [53, 54, 55, 56] σ σ12 := fr_tr f11 (fr_up (f_Se_textAt e12) (by decide) (by decide))
  obtain ⟨_, h⟩ := gd_some h
  obtain ⟨v21, σ21, e21, h⟩ := am_bd_some h
  have f21 : FR [(57, 1), (57, 3), (9, 1), (9, 2), (9, 3)] [53, 54, 55, 56] σ σ21 := fr_tr (fr_ai f12 (List.mem_of_getElem? (i := 0) rfl)) (fr_up (f_Cu_number e21) (by decide) (by decide))
  by_cases c26 : (lg_cmp (v21 &&& 15) 2) = 0
  · rw [if_pos c26] at h
    exact fr_tr f21 (f_Sy_readOne_58 h)
  · rw [if_neg c26] at h
    exact fr_tr f21 (f_Sy_readOne_58 h)
theorem f_Sy_readOne {σ σ' : am_S} {r : Int32} (h : g_Sy_readOne σ = some (r, σ')) : FR [(57, 1), (57, 3), (9, 1), (9, 2), (9, 3)] [53, 54, 55, 56] σ σ' := f_Sy_readOne_0 h
set_option maxHeartbeats 4000000 in
theorem f_Sy_read_51 {σ σ' : am_S} {r : Int32} (h : g_Sy_read_51 σ = some (r, σ')) : FR [(52, 6), (57, 1), (57, 2), (57, 3), (9, 1), (9, 2), (9, 3)] [53, 54, 55, 56] σ σ' := by
  unfold g_Sy_read_51 at h
  exact fr_lf fr_rf h
set_option maxHeartbeats 4000000 in
theorem f_Sy_read_55 : ∀ (n : Nat) {x1 : Int32} {x2 : Int32} {σ σ' : am_S} {r : Int32} (h : g_Sy_read_55 n x1 x2 σ = some (r, σ')), FR [(52, 6), (57, 1), (57, 2), (57, 3), (9, 1), (9, 2), (9, 3)] [53, 54, 55, 56] σ σ' := by
  intro n
  induction n with
  | zero =>
    intro x1 x2 σ σ' r h
    cases h
  | succ n ih =>
  intro x1 x2 σ σ' r h
  unfold g_Sy_read_55 at h
  obtain ⟨_, h⟩ := gd_some h
  by_cases c5 : x2 < (x1 / 24)
  · rw [if_pos c5] at h
    obtain ⟨v7, σ7, e7, h⟩ := am_bd_some h
    have f7 : FR [(52, 6), (57, 1), (57, 2), (57, 3), (9, 1), (9, 2), (9, 3)] [53, 54, 55, 56] σ σ7 := fr_up (f_Sy_readOne e7) (by decide) (fun _ h9 => h9)
    by_cases c8 : v7 = 0
    · rw [if_pos c8] at h
      exact fr_lf f7 h
    · rw [if_neg c8] at h
      exact fr_tr (fr_fi f7 (List.mem_of_getElem? (i := 0) rfl)) (ih h)
  · rw [if_neg c5] at h
    exact fr_lf fr_rf h
set_option maxHeartbeats 4000000 in
theorem f_Sy_read_0 {σ σ' : am_S} {r : Int32} (h : g_Sy_read σ = some (r, σ')) : FR [(52, 6), (57, 1), (57, 2), (57, 3), (9, 1), (9, 2), (9, 3)] [53, 54, 55, 56] σ σ' := by
  unfold g_Sy_read at h
  obtain ⟨v10, σ10, e10, h⟩ := am_bd_some h
  have f10 : FR [(52, 6), (57, 1), (57, 2), (57, 3), (9, 1), (9, 2), (9, 3)] [53, 54, 55, 56] σ σ10 := fr_tr (fr_fi fr_rf (List.mem_of_getElem? (i := 0) rfl)) (fr_up (f_Se_point e10) (by decide) (by decide))
  obtain ⟨_, h⟩ := gd_some h
  by_cases c22 : (((σ10.1.1 57 2) - (σ10.1.1 57 1)) - ((σ10.1.1 57 2) - (σ10.1.1 57 1)) / 24 * 24) = 0
  · rw [if_pos c22] at h
    obtain ⟨_, h⟩ := gd_some h
    by_cases c27 : 60 < (((σ10.1.1 57 2) - (σ10.1.1 57 1)) / 24)
    · rw [if_pos c27] at h
      exact fr_tr f10 (f_Sy_read_51 h)
    · rw [if_neg c27] at h
      exact fr_tr f10 (f_Sy_read_55 4000 h)
  · rw [if_neg c22] at h
    exact fr_tr f10 (f_Sy_read_51 h)
theorem f_Sy_read {σ σ' : am_S} {r : Int32} (h : g_Sy_read σ = some (r, σ')) : FR [(52, 6), (57, 1), (57, 2), (57, 3), (9, 1), (9, 2), (9, 3)] [53, 54, 55, 56] σ σ' := f_Sy_read_0 h
set_option maxHeartbeats 4000000 in
theorem f_Sy_covering_47 {x1 : Int64} {x3 : Int32} {σ σ' : am_S} {r : Int32} {go : Int64 → Int32 → am_S → Option (Int32 × am_S)} (hgo : ∀ {x1 : Int64} {x3 : Int32} {σ σ' : am_S} {r : Int32}, go x1 x3 σ = some (r, σ') → FR [] [] σ σ') (h : g_Sy_covering_47 go x1 x3 σ = some (r, σ')) : FR [] [] σ σ' := by
  unfold g_Sy_covering_47 at h
  exact hgo h
set_option maxHeartbeats 4000000 in
theorem f_Sy_covering_2 : ∀ (n : Nat) {x1 : Int64} {x3 : Int32} {σ σ' : am_S} {r : Int32} (h : g_Sy_covering_2 n x1 x3 σ = some (r, σ')), FR [] [] σ σ' := by
  intro n
  induction n with
  | zero =>
    intro x1 x3 σ σ' r h
    cases h
  | succ n ih =>
  intro x1 x3 σ σ' r h
  unfold g_Sy_covering_2 at h
  by_cases c4 : x3 < (σ.1.1 52 6)
  · rw [if_pos c4] at h
    obtain ⟨_, h⟩ := gd_some h
    by_cases c9 : (σ.2.1 54 x3.toNatClampNeg) = 0
    · rw [if_pos c9] at h
      exact f_Sy_covering_47 (fun h => ih h) h
    · rw [if_neg c9] at h
      obtain ⟨_, h⟩ := gd_some h
      obtain ⟨v15, σ15, e15, h⟩ := am_bd_some h
      have f15 : FR [] [] σ σ15 := fr_up (f_F_isBelow e15) (fun _ h9 => (by cases h9)) (fun _ h9 => (by cases h9))
      by_cases c16 : v15 = 0
      · rw [if_pos c16] at h
        obtain ⟨_, h⟩ := gd_some h
        obtain ⟨v22, σ22, e22, h⟩ := am_bd_some h
        have f22 : FR [] [] σ σ22 := fr_tr f15 (fr_up (f_F_isBelow e22) (fun _ h9 => (by cases h9)) (fun _ h9 => (by cases h9)))
        by_cases c23 : v22 = 0
        · rw [if_pos c23] at h
          exact fr_tr f22 (f_Sy_covering_47 (fun h => ih h) h)
        · rw [if_neg c23] at h
          exact fr_lf f22 h
      · rw [if_neg c16] at h
        exact fr_tr f15 (f_Sy_covering_47 (fun h => ih h) h)
  · rw [if_neg c4] at h
    exact fr_lf fr_rf h
set_option maxHeartbeats 4000000 in
theorem f_Sy_covering_0 {x1 : Int64} {σ σ' : am_S} {r : Int32} (h : g_Sy_covering x1 σ = some (r, σ')) : FR [] [] σ σ' := by
  unfold g_Sy_covering at h
  exact f_Sy_covering_2 4000 h
theorem f_Sy_covering {x1 : Int64} {σ σ' : am_S} {r : Int32} (h : g_Sy_covering x1 σ = some (r, σ')) : FR [] [] σ σ' := f_Sy_covering_0 h
set_option maxHeartbeats 4000000 in
theorem f_Fr_firstFunction_43 {x1 : Int64} {x3 : Int32} {σ σ' : am_S} {r : Int32} {go : Int64 → Int32 → am_S → Option (Int32 × am_S)} (hgo : ∀ {x1 : Int64} {x3 : Int32} {σ σ' : am_S} {r : Int32}, go x1 x3 σ = some (r, σ') → FR [] [] σ σ') (h : g_Fr_firstFunction_43 go x1 x3 σ = some (r, σ')) : FR [] [] σ σ' := by
  unfold g_Fr_firstFunction_43 at h
  exact hgo h
set_option maxHeartbeats 4000000 in
theorem f_Fr_firstFunction_2 : ∀ (n : Nat) {x1 : Int64} {x3 : Int32} {σ σ' : am_S} {r : Int32} (h : g_Fr_firstFunction_2 n x1 x3 σ = some (r, σ')), FR [] [] σ σ' := by
  intro n
  induction n with
  | zero =>
    intro x1 x3 σ σ' r h
    cases h
  | succ n ih =>
  intro x1 x3 σ σ' r h
  unfold g_Fr_firstFunction_2 at h
  by_cases c5 : x3 < (σ.1.1 10 10)
  · rw [if_pos c5] at h
    obtain ⟨_, h⟩ := gd_some h
    by_cases c13 : (lg_cmp (σ.2.2 11 x3.toNatClampNeg) 46) = 0
    · rw [if_pos c13] at h
      obtain ⟨v18, σ18, e18, h⟩ := am_bd_some h
      have f18 : FR [] [] σ σ18 := fr_up (f_Ra_hold e18) (fun _ h9 => (by cases h9)) (fun _ h9 => (by cases h9))
      by_cases c19 : v18 = 0
      · rw [if_pos c19] at h
        exact fr_tr f18 (f_Fr_firstFunction_43 (fun h => ih h) h)
      · rw [if_neg c19] at h
        exact fr_lf f18 h
    · rw [if_neg c13] at h
      exact f_Fr_firstFunction_43 (fun h => ih h) h
  · rw [if_neg c5] at h
    exact fr_lf fr_rf h
set_option maxHeartbeats 4000000 in
theorem f_Fr_firstFunction_0 {x1 : Int64} {σ σ' : am_S} {r : Int32} (h : g_Fr_firstFunction x1 σ = some (r, σ')) : FR [] [] σ σ' := by
  unfold g_Fr_firstFunction at h
  exact f_Fr_firstFunction_2 4000 h
theorem f_Fr_firstFunction {x1 : Int64} {σ σ' : am_S} {r : Int32} (h : g_Fr_firstFunction x1 σ = some (r, σ')) : FR [] [] σ σ' := f_Fr_firstFunction_0 h
set_option maxHeartbeats 4000000 in
theorem f_Fr_isIn_50 {σ σ' : am_S} {r : Int32} (h : g_Fr_isIn_50 σ = some (r, σ')) : FR [] [] σ σ' := by
  unfold g_Fr_isIn_50 at h
  exact fr_lf fr_rf h
set_option maxHeartbeats 4000000 in
theorem f_Fr_isIn_79 {x2 : Int32} {x3 : Int64} {x5 : Int32} {x6 : Int32} {σ σ' : am_S} {r : Int32} {go : Int32 → Int64 → Int32 → Int32 → am_S → Option (Int32 × am_S)} (hgo : ∀ {x2 : Int32} {x3 : Int64} {x5 : Int32} {x6 : Int32} {σ σ' : am_S} {r : Int32}, go x2 x3 x5 x6 σ = some (r, σ') → FR [] [] σ σ') (h : g_Fr_isIn_79 go x2 x3 x5 x6 σ = some (r, σ')) : FR [] [] σ σ' := by
  unfold g_Fr_isIn_79 at h
  obtain ⟨_, h⟩ := gd_some h
  exact hgo h
set_option maxHeartbeats 4000000 in
theorem f_Fr_isIn_108 {y0 : Int32} {σ σ' : am_S} {r : Int32} (h : g_Fr_isIn_108 y0 σ = some (r, σ')) : FR [] [] σ σ' := by
  unfold g_Fr_isIn_108 at h
  obtain ⟨_, h⟩ := gd_some h
  exact fr_lf fr_rf h
set_option maxHeartbeats 4000000 in
theorem f_Fr_isIn_97 {x2 : Int32} {x5 : Int32} {σ σ' : am_S} {r : Int32} (h : g_Fr_isIn_97 x2 x5 σ = some (r, σ')) : FR [] [] σ σ' := by
  unfold g_Fr_isIn_97 at h
  by_cases c3 : x5 = x2
  · rw [if_pos c3] at h
    exact f_Fr_isIn_108 h
  · rw [if_neg c3] at h
    exact f_Fr_isIn_108 h
set_option maxHeartbeats 4000000 in
theorem f_Fr_isIn_14 : ∀ (n : Nat) {x2 : Int32} {x3 : Int64} {x5 : Int32} {x6 : Int32} {σ σ' : am_S} {r : Int32} (h : g_Fr_isIn_14 n x2 x3 x5 x6 σ = some (r, σ')), FR [] [] σ σ' := by
  intro n
  induction n with
  | zero =>
    intro x2 x3 x5 x6 σ σ' r h
    cases h
  | succ n ih =>
  intro x2 x3 x5 x6 σ σ' r h
  unfold g_Fr_isIn_14 at h
  by_cases c3 : x6 < 16
  · rw [if_pos c3] at h
    by_cases c6 : x5 = x2
    · rw [if_pos c6] at h
      exact f_Fr_isIn_97 h
    · rw [if_neg c6] at h
      by_cases c9 : x5 = (-1)
      · rw [if_pos c9] at h
        exact f_Fr_isIn_50 h
      · rw [if_neg c9] at h
        obtain ⟨_, h⟩ := gd_some h
        by_cases c17 : (lg_cmp (σ.2.2 11 x5.toNatClampNeg) 11) = 0
        · rw [if_pos c17] at h
          obtain ⟨v21, σ21, e21, h⟩ := am_bd_some h
          have f21 : FR [] [] σ σ21 := fr_up (f_En_hasPlaces e21) (fun _ h9 => (by cases h9)) (fun _ h9 => (by cases h9))
          by_cases c22 : v21 = 0
          · rw [if_pos c22] at h
            exact fr_tr f21 (f_Fr_isIn_79 (fun h => ih h) h)
          · rw [if_neg c22] at h
            obtain ⟨v27, σ27, e27, h⟩ := am_bd_some h
            have f27 : FR [] [] σ σ27 := fr_tr f21 (fr_up (f_Ra_hold e27) (fun _ h9 => (by cases h9)) (fun _ h9 => (by cases h9)))
            by_cases c28 : v27 = 0
            · rw [if_pos c28] at h
              exact fr_lf f27 h
            · rw [if_neg c28] at h
              exact fr_tr f27 (f_Fr_isIn_79 (fun h => ih h) h)
        · rw [if_neg c17] at h
          exact f_Fr_isIn_50 h
  · rw [if_neg c3] at h
    exact f_Fr_isIn_97 h
set_option maxHeartbeats 4000000 in
theorem f_Fr_isIn_0 {x1 : Int32} {x2 : Int32} {x3 : Int64} {σ σ' : am_S} {r : Int32} (h : g_Fr_isIn x1 x2 x3 σ = some (r, σ')) : FR [] [] σ σ' := by
  unfold g_Fr_isIn at h
  obtain ⟨_, h⟩ := gd_some h
  exact f_Fr_isIn_14 4000 h
theorem f_Fr_isIn {x1 : Int32} {x2 : Int32} {x3 : Int64} {σ σ' : am_S} {r : Int32} (h : g_Fr_isIn x1 x2 x3 σ = some (r, σ')) : FR [] [] σ σ' := f_Fr_isIn_0 h
set_option maxHeartbeats 4000000 in
theorem f_Fr_firstPutInto_61 {x1 : Int32} {x2 : Int64} {x4 : Int32} {σ σ' : am_S} {r : Int32} {go : Int32 → Int64 → Int32 → am_S → Option (Int32 × am_S)} (hgo : ∀ {x1 : Int32} {x2 : Int64} {x4 : Int32} {σ σ' : am_S} {r : Int32}, go x1 x2 x4 σ = some (r, σ') → FR [] [] σ σ') (h : g_Fr_firstPutInto_61 go x1 x2 x4 σ = some (r, σ')) : FR [] [] σ σ' := by
  unfold g_Fr_firstPutInto_61 at h
  exact hgo h
set_option maxHeartbeats 4000000 in
theorem f_Fr_firstPutInto_5 : ∀ (n : Nat) {x1 : Int32} {x2 : Int64} {x4 : Int32} {σ σ' : am_S} {r : Int32} (h : g_Fr_firstPutInto_5 n x1 x2 x4 σ = some (r, σ')), FR [] [] σ σ' := by
  intro n
  induction n with
  | zero =>
    intro x1 x2 x4 σ σ' r h
    cases h
  | succ n ih =>
  intro x1 x2 x4 σ σ' r h
  unfold g_Fr_firstPutInto_5 at h
  by_cases c5 : x4 < (σ.1.1 10 10)
  · rw [if_pos c5] at h
    obtain ⟨_, h⟩ := gd_some h
    by_cases c13 : (lg_cmp (σ.2.2 11 x4.toNatClampNeg) 29) = 0
    · rw [if_pos c13] at h
      obtain ⟨v18, σ18, e18, h⟩ := am_bd_some h
      have f18 : FR [] [] σ σ18 := fr_up (f_Ra_hold e18) (fun _ h9 => (by cases h9)) (fun _ h9 => (by cases h9))
      by_cases c19 : v18 = 0
      · rw [if_pos c19] at h
        exact fr_tr f18 (f_Fr_firstPutInto_61 (fun h => ih h) h)
      · rw [if_neg c19] at h
        obtain ⟨v24, σ24, e24, h⟩ := am_bd_some h
        have f24 : FR [] [] σ σ24 := fr_tr f18 (fr_up (f_Fr_isIn e24) (fun _ h9 => (by cases h9)) (fun _ h9 => (by cases h9)))
        by_cases c25 : v24 = 0
        · rw [if_pos c25] at h
          exact fr_tr f24 (f_Fr_firstPutInto_61 (fun h => ih h) h)
        · rw [if_neg c25] at h
          exact fr_lf f24 h
    · rw [if_neg c13] at h
      exact f_Fr_firstPutInto_61 (fun h => ih h) h
  · rw [if_neg c5] at h
    exact fr_lf fr_rf h
set_option maxHeartbeats 4000000 in
theorem f_Fr_firstPutInto_0 {x1 : Int32} {x2 : Int64} {σ σ' : am_S} {r : Int32} (h : g_Fr_firstPutInto x1 x2 σ = some (r, σ')) : FR [] [] σ σ' := by
  unfold g_Fr_firstPutInto at h
  exact f_Fr_firstPutInto_5 4000 h
theorem f_Fr_firstPutInto {x1 : Int32} {x2 : Int64} {σ σ' : am_S} {r : Int32} (h : g_Fr_firstPutInto x1 x2 σ = some (r, σ')) : FR [] [] σ σ' := f_Fr_firstPutInto_0 h
set_option maxHeartbeats 4000000 in
theorem f_Fr_nameOf_4 : ∀ (n : Nat) {x2 : Int32} {x3 : Int32} {σ σ' : am_S} {r : Int32} (h : g_Fr_nameOf_4 n x2 x3 σ = some (r, σ')), FR [] [] σ σ' := by
  intro n
  induction n with
  | zero =>
    intro x2 x3 σ σ' r h
    cases h
  | succ n ih =>
  intro x2 x3 σ σ' r h
  unfold g_Fr_nameOf_4 at h
  by_cases c3 : 8 < x3
  · rw [if_pos c3] at h
    exact fr_lf fr_rf h
  · rw [if_neg c3] at h
    obtain ⟨v8, σ8, e8, h⟩ := am_bd_some h
    have f8 : FR [] [] σ σ8 := fr_up (f_En_has e8) (fun _ h9 => (by cases h9)) (fun _ h9 => (by cases h9))
    by_cases c9 : v8 = 0
    · rw [if_pos c9] at h
      obtain ⟨v14, σ14, e14, h⟩ := am_bd_some h
      have f14 : FR [] [] σ σ14 := fr_tr f8 (fr_up (f_En_has e14) (fun _ h9 => (by cases h9)) (fun _ h9 => (by cases h9)))
      by_cases c15 : v14 = 0
      · rw [if_pos c15] at h
        exact fr_lf f14 h
      · rw [if_neg c15] at h
        obtain ⟨v20, σ20, e20, h⟩ := am_bd_some h
        have f20 : FR [] [] σ σ20 := fr_tr f14 (fr_up (f_En_valueOf e20) (fun _ h9 => (by cases h9)) (fun _ h9 => (by cases h9)))
        exact fr_tr f20 (ih h)
    · rw [if_neg c9] at h
      obtain ⟨v14, σ14, e14, h⟩ := am_bd_some h
      have f14 : FR [] [] σ σ14 := fr_tr f8 (fr_up (f_En_valueOf e14) (fun _ h9 => (by cases h9)) (fun _ h9 => (by cases h9)))
      exact fr_lf f14 h
set_option maxHeartbeats 4000000 in
theorem f_Fr_nameOf_0 {x1 : Int32} {σ σ' : am_S} {r : Int32} (h : g_Fr_nameOf x1 σ = some (r, σ')) : FR [] [] σ σ' := by
  unfold g_Fr_nameOf at h
  exact f_Fr_nameOf_4 4000 h
theorem f_Fr_nameOf {x1 : Int32} {σ σ' : am_S} {r : Int32} (h : g_Fr_nameOf x1 σ = some (r, σ')) : FR [] [] σ σ' := f_Fr_nameOf_0 h
set_option maxHeartbeats 4000000 in
theorem f_Fr_textEnd_31 {x2 : Int32} {σ σ' : am_S} {r : Int32} (h : g_Fr_textEnd_31 x2 σ = some (r, σ')) : FR [] [] σ σ' := by
  unfold g_Fr_textEnd_31 at h
  exact fr_lf fr_rf h
set_option maxHeartbeats 4000000 in
theorem f_Fr_textEnd_9 : ∀ (n : Nat) {x2 : Int32} {σ σ' : am_S} {r : Int32} (h : g_Fr_textEnd_9 n x2 σ = some (r, σ')), FR [] [] σ σ' := by
  intro n
  induction n with
  | zero =>
    intro x2 σ σ' r h
    cases h
  | succ n ih =>
  intro x2 σ σ' r h
  unfold g_Fr_textEnd_9 at h
  by_cases c3 : x2 < 3000
  · rw [if_pos c3] at h
    obtain ⟨_, h⟩ := gd_some h
    by_cases c8 : (σ.2.1 1 x2.toNatClampNeg) = 0
    · rw [if_pos c8] at h
      exact f_Fr_textEnd_31 h
    · rw [if_neg c8] at h
      exact ih h
  · rw [if_neg c3] at h
    exact f_Fr_textEnd_31 h
set_option maxHeartbeats 4000000 in
theorem f_Fr_textEnd_0 {x1 : Int32} {σ σ' : am_S} {r : Int32} (h : g_Fr_textEnd x1 σ = some (r, σ')) : FR [] [] σ σ' := by
  unfold g_Fr_textEnd at h
  by_cases c3 : x1 = (-1)
  · rw [if_pos c3] at h
    exact fr_lf fr_rf h
  · rw [if_neg c3] at h
    exact f_Fr_textEnd_9 4000 h
theorem f_Fr_textEnd {x1 : Int32} {σ σ' : am_S} {r : Int32} (h : g_Fr_textEnd x1 σ = some (r, σ')) : FR [] [] σ σ' := f_Fr_textEnd_0 h
set_option maxHeartbeats 4000000 in
theorem f_Fr_add_0 {x1 : Int32} {x2 : Int32} {x3 : Int32} {σ σ' : am_S} {r : Unit} (h : g_Fr_add x1 x2 x3 σ = some (r, σ')) : FR [(58, 11)] [60, 61, 62, 63, 64] σ σ' := by
  unfold g_Fr_add at h
  obtain ⟨_, h⟩ := gd_some h
  obtain ⟨v13, σ13, e13, h⟩ := am_bd_some h
  have f13 : FR [(58, 11)] [60, 61, 62, 63, 64] σ σ13 := fr_tr (fr_ai fr_rf (List.mem_of_getElem? (i := 0) rfl)) (fr_up (f_Fr_textEnd e13) (fun _ h9 => (by cases h9)) (fun _ h9 => (by cases h9)))
  obtain ⟨_, h⟩ := gd_some h
  obtain ⟨_, h⟩ := gd_some h
  obtain ⟨v27, σ27, e27, h⟩ := am_bd_some h
  have f27 : FR [(58, 11)] [60, 61, 62, 63, 64] σ σ27 := fr_tr (fr_ai (fr_ai f13 (List.mem_of_getElem? (i := 1) rfl)) (List.mem_of_getElem? (i := 2) rfl)) (fr_up (f_Fr_textEnd e27) (fun _ h9 => (by cases h9)) (fun _ h9 => (by cases h9)))
  obtain ⟨_, h⟩ := gd_some h
  obtain ⟨_, h⟩ := gd_some h
  exact fr_lf (fr_fi (fr_ai (fr_ai f27 (List.mem_of_getElem? (i := 3) rfl)) (List.mem_of_getElem? (i := 4) rfl)) (List.mem_of_getElem? (i := 0) rfl)) h
theorem f_Fr_add {x1 : Int32} {x2 : Int32} {x3 : Int32} {σ σ' : am_S} {r : Unit} (h : g_Fr_add x1 x2 x3 σ = some (r, σ')) : FR [(58, 11)] [60, 61, 62, 63, 64] σ σ' := f_Fr_add_0 h
set_option maxHeartbeats 4000000 in
theorem f_Fr_addInnermost_81 {σ σ' : am_S} {r : Unit} (h : g_Fr_addInnermost_81 σ = some (r, σ')) : FR [(58, 11)] [60, 61, 62, 63, 64] σ σ' := by
  unfold g_Fr_addInnermost_81 at h
  exact fr_lf fr_rf h
set_option maxHeartbeats 4000000 in
theorem f_Fr_addInnermost_0 {x1 : Int32} {x2 : Int64} {σ σ' : am_S} {r : Unit} (h : g_Fr_addInnermost x1 x2 σ = some (r, σ')) : FR [(58, 11)] [60, 61, 62, 63, 64] σ σ' := by
  unfold g_Fr_addInnermost at h
  obtain ⟨_, h⟩ := gd_some h
  obtain ⟨v11, σ11, e11, h⟩ := am_bd_some h
  have f11 : FR [(58, 11)] [60, 61, 62, 63, 64] σ σ11 := fr_up (f_Ro_rowOf e11) (fun _ h9 => (by cases h9)) (fun _ h9 => (by cases h9))
  by_cases c15 : v11 = (-1)
  · rw [if_pos c15] at h
    obtain ⟨v19, σ19, e19, h⟩ := am_bd_some h
    have f19 : FR [(58, 11)] [60, 61, 62, 63, 64] σ σ19 := fr_tr f11 (fr_up (f_Fr_nameOf e19) (fun _ h9 => (by cases h9)) (fun _ h9 => (by cases h9)))
    obtain ⟨v22, σ22, e22, h⟩ := am_bd_some h
    have f22 : FR [(58, 11)] [60, 61, 62, 63, 64] σ σ22 := fr_tr f19 (f_Fr_add e22)
    exact fr_tr f22 (f_Fr_addInnermost_81 h)
  · rw [if_neg c15] at h
    obtain ⟨v19, σ19, e19, h⟩ := am_bd_some h
    have f19 : FR [(58, 11)] [60, 61, 62, 63, 64] σ σ19 := fr_tr f11 (fr_up (f_Fr_nameOf e19) (fun _ h9 => (by cases h9)) (fun _ h9 => (by cases h9)))
    obtain ⟨_, h⟩ := gd_some h
    obtain ⟨v28, σ28, e28, h⟩ := am_bd_some h
    have f28 : FR [(58, 11)] [60, 61, 62, 63, 64] σ σ28 := fr_tr f19 (fr_up (f_Ro_nameOfFile e28) (fun _ h9 => (by cases h9)) (fun _ h9 => (by cases h9)))
    obtain ⟨_, h⟩ := gd_some h
    obtain ⟨v34, σ34, e34, h⟩ := am_bd_some h
    have f34 : FR [(58, 11)] [60, 61, 62, 63, 64] σ σ34 := fr_tr f28 (f_Fr_add e34)
    exact fr_tr f34 (f_Fr_addInnermost_81 h)
theorem f_Fr_addInnermost {x1 : Int32} {x2 : Int64} {σ σ' : am_S} {r : Unit} (h : g_Fr_addInnermost x1 x2 σ = some (r, σ')) : FR [(58, 11)] [60, 61, 62, 63, 64] σ σ' := f_Fr_addInnermost_0 h
set_option maxHeartbeats 4000000 in
theorem f_Fr_addAround_81 {y0 : Int32} {y1 : Int32} {y2 : Int32} {σ σ' : am_S} {r : Unit} (h : g_Fr_addAround_81 y0 y1 y2 σ = some (r, σ')) : FR [(58, 11)] [60, 61, 62, 63, 64] σ σ' := by
  unfold g_Fr_addAround_81 at h
  obtain ⟨v1, σ1, e1, h⟩ := am_bd_some h
  have f1 : FR [(58, 11)] [60, 61, 62, 63, 64] σ σ1 := f_Fr_add e1
  exact fr_lf f1 h
set_option maxHeartbeats 4000000 in
theorem f_Fr_addAround_43 {x1 : Int32} {x2 : Int32} {y0 : Int32} {σ σ' : am_S} {r : Unit} (h : g_Fr_addAround_43 x1 x2 y0 σ = some (r, σ')) : FR [(58, 11)] [60, 61, 62, 63, 64] σ σ' := by
  unfold g_Fr_addAround_43 at h
  obtain ⟨v5, σ5, e5, h⟩ := am_bd_some h
  have f5 : FR [(58, 11)] [60, 61, 62, 63, 64] σ σ5 := fr_up (f_Fr_nameOf e5) (fun _ h9 => (by cases h9)) (fun _ h9 => (by cases h9))
  obtain ⟨v11, σ11, e11, h⟩ := am_bd_some h
  have f11 : FR [(58, 11)] [60, 61, 62, 63, 64] σ σ11 := fr_tr f5 (fr_up (f_En_has e11) (fun _ h9 => (by cases h9)) (fun _ h9 => (by cases h9)))
  by_cases c12 : v11 = 0
  · rw [if_pos c12] at h
    exact fr_tr f11 (f_Fr_addAround_81 h)
  · rw [if_neg c12] at h
    obtain ⟨v17, σ17, e17, h⟩ := am_bd_some h
    have f17 : FR [(58, 11)] [60, 61, 62, 63, 64] σ σ17 := fr_tr f11 (fr_up (f_En_valueOf e17) (fun _ h9 => (by cases h9)) (fun _ h9 => (by cases h9)))
    exact fr_tr f17 (f_Fr_addAround_81 h)
set_option maxHeartbeats 4000000 in
theorem f_Fr_addAround_0 {x1 : Int32} {x2 : Int32} {σ σ' : am_S} {r : Unit} (h : g_Fr_addAround x1 x2 σ = some (r, σ')) : FR [(58, 11)] [60, 61, 62, 63, 64] σ σ' := by
  unfold g_Fr_addAround at h
  obtain ⟨v5, σ5, e5, h⟩ := am_bd_some h
  have f5 : FR [(58, 11)] [60, 61, 62, 63, 64] σ σ5 := fr_up (f_En_has e5) (fun _ h9 => (by cases h9)) (fun _ h9 => (by cases h9))
  by_cases c8 : v5 = 0
  · rw [if_pos c8] at h
    exact fr_tr f5 (f_Fr_addAround_43 h)
  · rw [if_neg c8] at h
    obtain ⟨_, h⟩ := gd_some h
    obtain ⟨v20, σ20, e20, h⟩ := am_bd_some h
    have f20 : FR [(58, 11)] [60, 61, 62, 63, 64] σ σ20 := fr_tr f5 (fr_up (f_En_valueOf e20) (fun _ h9 => (by cases h9)) (fun _ h9 => (by cases h9)))
    obtain ⟨v21, σ21, e21, h⟩ := am_bd_some h
    have f21 : FR [(58, 11)] [60, 61, 62, 63, 64] σ σ21 := fr_tr f20 (fr_up (f_Ro_nameOfFile e21) (fun _ h9 => (by cases h9)) (fun _ h9 => (by cases h9)))
    exact fr_tr f21 (f_Fr_addAround_43 h)
theorem f_Fr_addAround {x1 : Int32} {x2 : Int32} {σ σ' : am_S} {r : Unit} (h : g_Fr_addAround x1 x2 σ = some (r, σ')) : FR [(58, 11)] [60, 61, 62, 63, 64] σ σ' := f_Fr_addAround_0 h
