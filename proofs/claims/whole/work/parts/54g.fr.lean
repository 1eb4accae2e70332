set_option maxHeartbeats 4000000 in
theorem f_Fr_addChain_72 : ∀ (n : Nat) {x6 : Int32} {σ σ' : am_S} {r : Unit} (h : g_Fr_addChain_72 n x6 σ = some (r, σ')), FR [(58, 11)] [59, 60, 61, 62, 63, 64] σ σ' := by
  intro n
  induction n with
  | zero =>
    intro x6 σ σ' r h
    cases h
  | succ n ih =>
  intro x6 σ σ' r h
  unfold g_Fr_addChain_72 at h
  by_cases c2 : x6 < 0
  · rw [if_pos c2] at h
    exact fr_lf fr_rf h
  · rw [if_neg c2] at h
    obtain ⟨_, h⟩ := gd_some h
    obtain ⟨_, h⟩ := gd_some h
    obtain ⟨v14, σ14, e14, h⟩ := am_bd_some h
    have f14 : FR [(58, 11)] [59, 60, 61, 62, 63, 64] σ σ14 := fr_up (f_Fr_addAround e14) (fun _ h9 => h9) (by decide)
    exact fr_tr f14 (ih h)
set_option maxHeartbeats 4000000 in
theorem f_Fr_addChain_52 {x2 : Int64} {x4 : Int32} {σ σ' : am_S} {r : Unit} (h : g_Fr_addChain_52 x2 x4 σ = some (r, σ')) : FR [(58, 11)] [59, 60, 61, 62, 63, 64] σ σ' := by
  unfold g_Fr_addChain_52 at h
  obtain ⟨_, h⟩ := gd_some h
  obtain ⟨v9, σ9, e9, h⟩ := am_bd_some h
  have f9 : FR [(58, 11)] [59, 60, 61, 62, 63, 64] σ σ9 := fr_up (f_Fr_addInnermost e9) (fun _ h9 => h9) (by decide)
  exact fr_tr f9 (f_Fr_addChain_72 4000 h)
set_option maxHeartbeats 4000000 in
theorem f_Fr_addChain_9 : ∀ (n : Nat) {x2 : Int64} {x4 : Int32} {x5 : Int32} {x6 : Int32} {σ σ' : am_S} {r : Unit} (h : g_Fr_addChain_9 n x2 x4 x5 x6 σ = some (r, σ')), FR [(58, 11)] [59, 60, 61, 62, 63, 64] σ σ' := by
  intro n
  induction n with
  | zero =>
    intro x2 x4 x5 x6 σ σ' r h
    cases h
  | succ n ih =>
  intro x2 x4 x5 x6 σ σ' r h
  unfold g_Fr_addChain_9 at h
  by_cases c3 : x6 < 16
  · rw [if_pos c3] at h
    by_cases c6 : x5 = (-1)
    · rw [if_pos c6] at h
      exact f_Fr_addChain_52 h
    · rw [if_neg c6] at h
      obtain ⟨_, h⟩ := gd_some h
      obtain ⟨v19, σ19, e19, h⟩ := am_bd_some h
      have f19 : FR [(58, 11)] [59, 60, 61, 62, 63, 64] σ σ19 := fr_tr (fr_ai fr_rf (List.mem_of_getElem? (i := 0) rfl)) (fr_up (f_Fr_firstPutInto e19) (fun _ h9 => (by cases h9)) (fun _ h9 => (by cases h9)))
      exact fr_tr f19 (ih h)
  · rw [if_neg c3] at h
    exact f_Fr_addChain_52 h
set_option maxHeartbeats 4000000 in
theorem f_Fr_addChain_0 {x1 : Int32} {x2 : Int64} {σ σ' : am_S} {r : Unit} (h : g_Fr_addChain x1 x2 σ = some (r, σ')) : FR [(58, 11)] [59, 60, 61, 62, 63, 64] σ σ' := by
  unfold g_Fr_addChain at h
  exact f_Fr_addChain_9 4000 h
theorem f_Fr_addChain {x1 : Int32} {x2 : Int64} {σ σ' : am_S} {r : Unit} (h : g_Fr_addChain x1 x2 σ = some (r, σ')) : FR [(58, 11)] [59, 60, 61, 62, 63, 64] σ σ' := f_Fr_addChain_0 h
set_option maxHeartbeats 4000000 in
theorem f_Fr_build_59 {σ σ' : am_S} {r : Int32} (h : g_Fr_build_59 σ = some (r, σ')) : FR [(58, 11)] [59, 60, 61, 62, 63, 64] σ σ' := by
  unfold g_Fr_build_59 at h
  exact fr_lf fr_rf h
set_option maxHeartbeats 4000000 in
theorem f_Fr_build_0 {x1 : Int64} {σ σ' : am_S} {r : Int32} (h : g_Fr_build x1 σ = some (r, σ')) : FR [(58, 11)] [59, 60, 61, 62, 63, 64] σ σ' := by
  unfold g_Fr_build at h
  obtain ⟨v6, σ6, e6, h⟩ := am_bd_some h
  have f6 : FR [(58, 11)] [59, 60, 61, 62, 63, 64] σ σ6 := fr_tr (fr_fi fr_rf (List.mem_of_getElem? (i := 0) rfl)) (fr_up (f_Fr_firstFunction e6) (fun _ h9 => (by cases h9)) (fun _ h9 => (by cases h9)))
  by_cases c10 : v6 = (-1)
  · rw [if_pos c10] at h
    obtain ⟨v14, σ14, e14, h⟩ := am_bd_some h
    have f14 : FR [(58, 11)] [59, 60, 61, 62, 63, 64] σ σ14 := fr_tr f6 (fr_up (f_Sy_covering e14) (fun _ h9 => (by cases h9)) (fun _ h9 => (by cases h9)))
    by_cases c18 : v14 = (-1)
    · rw [if_pos c18] at h
      exact fr_tr f14 (f_Fr_build_59 h)
    · rw [if_neg c18] at h
      obtain ⟨_, h⟩ := gd_some h
      obtain ⟨v27, σ27, e27, h⟩ := am_bd_some h
      have f27 : FR [(58, 11)] [59, 60, 61, 62, 63, 64] σ σ27 := fr_tr f14 (fr_up (f_Fr_add e27) (fun _ h9 => h9) (by decide))
      exact fr_tr f27 (f_Fr_build_59 h)
  · rw [if_neg c10] at h
    obtain ⟨v14, σ14, e14, h⟩ := am_bd_some h
    have f14 : FR [(58, 11)] [59, 60, 61, 62, 63, 64] σ σ14 := fr_tr f6 (f_Fr_addChain e14)
    exact fr_lf f14 h
theorem f_Fr_build {x1 : Int64} {σ σ' : am_S} {r : Int32} (h : g_Fr_build x1 σ = some (r, σ')) : FR [(58, 11)] [59, 60, 61, 62, 63, 64] σ σ' := f_Fr_build_0 h
