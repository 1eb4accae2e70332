set_option maxHeartbeats 4000000 in
theorem f_Mo_thrown_0 {σ σ' : am_S} {r : Int32} (h : g_Mo_thrown σ = some (r, σ')) : FR [] [] σ σ' := by
  unfold g_Mo_thrown at h
  exact fr_lf fr_rf h
theorem f_Mo_thrown {σ σ' : am_S} {r : Int32} (h : g_Mo_thrown σ = some (r, σ')) : FR [] [] σ σ' := f_Mo_thrown_0 h
set_option maxHeartbeats 4000000 in
theorem f_Mo_forget_0 {σ σ' : am_S} {r : Unit} (h : g_Mo_forget σ = some (r, σ')) : FR [(0, 5), (0, 55), (0, 56)] [] σ σ' := by
  unfold g_Mo_forget at h
  exact fr_lf (fr_fi (fr_fi (fr_fi fr_rf (List.mem_of_getElem? (i := 0) rfl)) (List.mem_of_getElem? (i := 2) rfl)) (List.mem_of_getElem? (i := 1) rfl)) h
theorem f_Mo_forget {σ σ' : am_S} {r : Unit} (h : g_Mo_forget σ = some (r, σ')) : FR [(0, 5), (0, 55), (0, 56)] [] σ σ' := f_Mo_forget_0 h
set_option maxHeartbeats 4000000 in
theorem f_Mo_load_28 {σ σ' : am_S} {r : Int32} (h : g_Mo_load_28 σ = some (r, σ')) : FR [(0, 1), (0, 3), (0, 5), (0, 55), (0, 56)] [2] σ σ' := by
  unfold g_Mo_load_28 at h
  exact fr_lf fr_rf h
set_option maxHeartbeats 4000000 in
theorem f_Mo_load_33 : ∀ (n : Nat) {x1 : Int32} {x2 : Int64} {x4 : Int32} {σ σ' : am_S} {r : Int32} (h : g_Mo_load_33 n x1 x2 x4 σ = some (r, σ')), FR [(0, 1), (0, 3), (0, 5), (0, 55), (0, 56)] [2] σ σ' := by
  intro n
  induction n with
  | zero =>
    intro x1 x2 x4 σ σ' r h
    cases h
  | succ n ih =>
  intro x1 x2 x4 σ σ' r h
  unfold g_Mo_load_33 at h
  by_cases c3 : x4 < x1
  · rw [if_pos c3] at h
    obtain ⟨_, h⟩ := gd_some h
    exact fr_tr (fr_fi (fr_ai fr_rf (List.mem_of_getElem? (i := 0) rfl)) (List.mem_of_getElem? (i := 1) rfl)) (ih h)
  · rw [if_neg c3] at h
    obtain ⟨v5, σ5, e5, h⟩ := am_bd_some h
    have f5 : FR [(0, 1), (0, 3), (0, 5), (0, 55), (0, 56)] [2] σ σ5 := fr_up (f_Mo_forget e5) (by decide) (by decide)
    exact fr_lf f5 h
set_option maxHeartbeats 4000000 in
theorem f_Mo_load_0 {x1 : Int32} {x2 : Int64} {σ σ' : am_S} {r : Int32} (h : g_Mo_load x1 x2 σ = some (r, σ')) : FR [(0, 1), (0, 3), (0, 5), (0, 55), (0, 56)] [2] σ σ' := by
  unfold g_Mo_load at h
  by_cases c6 : x1 < 1
  · rw [if_pos c6] at h
    exact fr_tr (fr_fi fr_rf (List.mem_of_getElem? (i := 0) rfl)) (f_Mo_load_28 h)
  · rw [if_neg c6] at h
    by_cases c9 : 8 < x1
    · rw [if_pos c9] at h
      exact fr_tr (fr_fi fr_rf (List.mem_of_getElem? (i := 0) rfl)) (f_Mo_load_28 h)
    · rw [if_neg c9] at h
      by_cases c15 : 3000 < ((σ.1.1 0 3) + x1)
      · rw [if_pos c15] at h
        exact fr_tr (fr_fi fr_rf (List.mem_of_getElem? (i := 0) rfl)) (f_Mo_load_28 h)
      · rw [if_neg c15] at h
        exact fr_tr (fr_fi fr_rf (List.mem_of_getElem? (i := 0) rfl)) (f_Mo_load_33 4000 h)
theorem f_Mo_load {x1 : Int32} {x2 : Int64} {σ σ' : am_S} {r : Int32} (h : g_Mo_load x1 x2 σ = some (r, σ')) : FR [(0, 1), (0, 3), (0, 5), (0, 55), (0, 56)] [2] σ σ' := f_Mo_load_0 h
set_option maxHeartbeats 4000000 in
theorem f_Mo_clear_0 {σ σ' : am_S} {r : Unit} (h : g_Mo_clear σ = some (r, σ')) : FR [(0, 1), (0, 3), (0, 5), (0, 55), (0, 56)] [] σ σ' := by
  unfold g_Mo_clear at h
  obtain ⟨v8, σ8, e8, h⟩ := am_bd_some h
  have f8 : FR [(0, 1), (0, 3), (0, 5), (0, 55), (0, 56)] [] σ σ8 := fr_tr (fr_fi (fr_fi fr_rf (List.mem_of_getElem? (i := 0) rfl)) (List.mem_of_getElem? (i := 1) rfl)) (fr_up (f_Mo_forget e8) (by decide) (fun _ h9 => h9))
  exact fr_lf f8 h
theorem f_Mo_clear {σ σ' : am_S} {r : Unit} (h : g_Mo_clear σ = some (r, σ')) : FR [(0, 1), (0, 3), (0, 5), (0, 55), (0, 56)] [] σ σ' := f_Mo_clear_0 h
set_option maxHeartbeats 4000000 in
theorem f_Mo_peek_7 : ∀ (n : Nat) {x1 : Int32} {x3 : Int64} {x5 : Int32} {σ σ' : am_S} {r : Int64} (h : g_Mo_peek_7 n x1 x3 x5 σ = some (r, σ')), FR [] [] σ σ' := by
  intro n
  induction n with
  | zero =>
    intro x1 x3 x5 σ σ' r h
    cases h
  | succ n ih =>
  intro x1 x3 x5 σ σ' r h
  unfold g_Mo_peek_7 at h
  by_cases c2 : x5 < 0
  · rw [if_pos c2] at h
    exact fr_lf fr_rf h
  · rw [if_neg c2] at h
    obtain ⟨_, h⟩ := gd_some h
    exact ih h
set_option maxHeartbeats 4000000 in
theorem f_Mo_peek_0 {x1 : Int32} {x2 : Int32} {σ σ' : am_S} {r : Int64} (h : g_Mo_peek x1 x2 σ = some (r, σ')) : FR [] [] σ σ' := by
  unfold g_Mo_peek at h
  exact f_Mo_peek_7 4000 h
theorem f_Mo_peek {x1 : Int32} {x2 : Int32} {σ σ' : am_S} {r : Int64} (h : g_Mo_peek x1 x2 σ = some (r, σ')) : FR [] [] σ σ' := f_Mo_peek_0 h
set_option maxHeartbeats 4000000 in
theorem f_Mo_u_20 {σ σ' : am_S} {r : Int64} (h : g_Mo_u_20 σ = some (r, σ')) : FR [(0, 6), (0, 8)] [] σ σ' := by
  unfold g_Mo_u_20 at h
  exact fr_lf (fr_fi fr_rf (List.mem_of_getElem? (i := 1) rfl)) h
set_option maxHeartbeats 4000000 in
theorem f_Mo_u_0 {x1 : Int32} {σ σ' : am_S} {r : Int64} (h : g_Mo_u x1 σ = some (r, σ')) : FR [(0, 6), (0, 8)] [] σ σ' := by
  unfold g_Mo_u at h
  by_cases c3 : (σ.1.1 0 8) = 0
  · rw [if_pos c3] at h
    by_cases c10 : (σ.1.1 0 7) < ((σ.1.1 0 6) + x1)
    · rw [if_pos c10] at h
      exact f_Mo_u_20 h
    · rw [if_neg c10] at h
      obtain ⟨v23, σ23, e23, h⟩ := am_bd_some h
      have f23 : FR [(0, 6), (0, 8)] [] σ σ23 := fr_tr (fr_fi fr_rf (List.mem_of_getElem? (i := 0) rfl)) (fr_up (f_Mo_peek e23) (fun _ h9 => (by cases h9)) (fun _ h9 => (by cases h9)))
      exact fr_lf f23 h
  · rw [if_neg c3] at h
    exact f_Mo_u_20 h
theorem f_Mo_u {x1 : Int32} {σ σ' : am_S} {r : Int64} (h : g_Mo_u x1 σ = some (r, σ')) : FR [(0, 6), (0, 8)] [] σ σ' := f_Mo_u_0 h
set_option maxHeartbeats 4000000 in
theorem f_Mo_leb_59 {x1 : Int32} {x2 : Int64} {x4 : Int32} {x5 : Int32} {y0 : Int32} {σ σ' : am_S} {r : Int64} {go : Int32 → Int64 → Int32 → Int32 → am_S → Option (Int64 × am_S)} (hgo : ∀ {x1 : Int32} {x2 : Int64} {x4 : Int32} {x5 : Int32} {σ σ' : am_S} {r : Int64}, go x1 x2 x4 x5 σ = some (r, σ') → FR [(0, 6), (0, 8)] [] σ σ') (h : g_Mo_leb_59 go x1 x2 x4 x5 y0 σ = some (r, σ')) : FR [(0, 6), (0, 8)] [] σ σ' := by
  unfold g_Mo_leb_59 at h
  obtain ⟨_, h⟩ := gd_some h
  exact fr_tr (fr_fi fr_rf (List.mem_of_getElem? (i := 1) rfl)) (hgo h)
set_option maxHeartbeats 4000000 in
theorem f_Mo_leb_54 {x1 : Int32} {x2 : Int64} {x4 : Int32} {x5 : Int32} {σ σ' : am_S} {r : Int64} {go : Int32 → Int64 → Int32 → Int32 → am_S → Option (Int64 × am_S)} (hgo : ∀ {x1 : Int32} {x2 : Int64} {x4 : Int32} {x5 : Int32} {σ σ' : am_S} {r : Int64}, go x1 x2 x4 x5 σ = some (r, σ') → FR [(0, 6), (0, 8)] [] σ σ') (h : g_Mo_leb_54 go x1 x2 x4 x5 σ = some (r, σ')) : FR [(0, 6), (0, 8)] [] σ σ' := by
  unfold g_Mo_leb_54 at h
  exact f_Mo_leb_59 hgo h
set_option maxHeartbeats 4000000 in
theorem f_Mo_leb_58 {x1 : Int32} {x2 : Int64} {x4 : Int32} {x5 : Int32} {σ σ' : am_S} {r : Int64} {go : Int32 → Int64 → Int32 → Int32 → am_S → Option (Int64 × am_S)} (hgo : ∀ {x1 : Int32} {x2 : Int64} {x4 : Int32} {x5 : Int32} {σ σ' : am_S} {r : Int64}, go x1 x2 x4 x5 σ = some (r, σ') → FR [(0, 6), (0, 8)] [] σ σ') (h : g_Mo_leb_58 go x1 x2 x4 x5 σ = some (r, σ')) : FR [(0, 6), (0, 8)] [] σ σ' := by
  unfold g_Mo_leb_58 at h
  exact f_Mo_leb_59 hgo h
set_option maxHeartbeats 4000000 in
theorem f_Mo_leb_117 {y0 : Int64} {σ σ' : am_S} {r : Int64} (h : g_Mo_leb_117 y0 σ = some (r, σ')) : FR [(0, 6), (0, 8)] [] σ σ' := by
  unfold g_Mo_leb_117 at h
  exact fr_lf fr_rf h
set_option maxHeartbeats 4000000 in
theorem f_Mo_leb_116 {x2 : Int64} {σ σ' : am_S} {r : Int64} (h : g_Mo_leb_116 x2 σ = some (r, σ')) : FR [(0, 6), (0, 8)] [] σ σ' := by
  unfold g_Mo_leb_116 at h
  exact f_Mo_leb_117 h
set_option maxHeartbeats 4000000 in
theorem f_Mo_leb_83 {x1 : Int32} {x2 : Int64} {x4 : Int32} {x5 : Int32} {σ σ' : am_S} {r : Int64} (h : g_Mo_leb_83 x1 x2 x4 x5 σ = some (r, σ')) : FR [(0, 6), (0, 8)] [] σ σ' := by
  unfold g_Mo_leb_83 at h
  by_cases c2 : x1 = 0
  · rw [if_pos c2] at h
    exact f_Mo_leb_116 h
  · rw [if_neg c2] at h
    by_cases c6 : 0 < (x5 &&& 64)
    · rw [if_pos c6] at h
      by_cases c9 : x4 < 10
      · rw [if_pos c9] at h
        exact f_Mo_leb_117 h
      · rw [if_neg c9] at h
        exact f_Mo_leb_116 h
    · rw [if_neg c6] at h
      exact f_Mo_leb_116 h
set_option maxHeartbeats 4000000 in
theorem f_Mo_leb_10 : ∀ (n : Nat) {x1 : Int32} {x2 : Int64} {x4 : Int32} {x5 : Int32} {σ σ' : am_S} {r : Int64} (h : g_Mo_leb_10 n x1 x2 x4 x5 σ = some (r, σ')), FR [(0, 6), (0, 8)] [] σ σ' := by
  intro n
  induction n with
  | zero =>
    intro x1 x2 x4 x5 σ σ' r h
    cases h
  | succ n ih =>
  intro x1 x2 x4 x5 σ σ' r h
  unfold g_Mo_leb_10 at h
  by_cases c3 : 127 < x5
  · rw [if_pos c3] at h
    by_cases c6 : (σ.1.1 0 8) = 0
    · rw [if_pos c6] at h
      obtain ⟨v9, σ9, e9, h⟩ := am_bd_some h
      have f9 : FR [(0, 6), (0, 8)] [] σ σ9 := f_Mo_u e9
      by_cases c15 : (σ9.1.1 0 8) = 0
      · rw [if_pos c15] at h
        by_cases c18 : x4 = 9
        · rw [if_pos c18] at h
          by_cases c21 : 127 < v9.toInt32
          · rw [if_pos c21] at h
            exact fr_tr f9 (f_Mo_leb_54 (fun h => ih h) h)
          · rw [if_neg c21] at h
            exact fr_tr f9 (f_Mo_leb_58 (fun h => ih h) h)
        · rw [if_neg c18] at h
          exact fr_tr f9 (f_Mo_leb_58 (fun h => ih h) h)
      · rw [if_neg c15] at h
        exact fr_tr f9 (f_Mo_leb_54 (fun h => ih h) h)
    · rw [if_neg c6] at h
      exact f_Mo_leb_83 h
  · rw [if_neg c3] at h
    exact f_Mo_leb_83 h
set_option maxHeartbeats 4000000 in
theorem f_Mo_leb_0 {x1 : Int32} {σ σ' : am_S} {r : Int64} (h : g_Mo_leb x1 σ = some (r, σ')) : FR [(0, 6), (0, 8)] [] σ σ' := by
  unfold g_Mo_leb at h
  exact f_Mo_leb_10 4000 h
theorem f_Mo_leb {x1 : Int32} {σ σ' : am_S} {r : Int64} (h : g_Mo_leb x1 σ = some (r, σ')) : FR [(0, 6), (0, 8)] [] σ σ' := f_Mo_leb_0 h
set_option maxHeartbeats 4000000 in
theorem f_Mo_textEnd_32 {y0 : Int32} {σ σ' : am_S} {r : Int32} (h : g_Mo_textEnd_32 y0 σ = some (r, σ')) : FR [] [] σ σ' := by
  unfold g_Mo_textEnd_32 at h
  exact fr_lf fr_rf h
set_option maxHeartbeats 4000000 in
theorem f_Mo_textEnd_22 {x2 : Int32} {x3 : Int32} {σ σ' : am_S} {r : Int32} (h : g_Mo_textEnd_22 x2 x3 σ = some (r, σ')) : FR [] [] σ σ' := by
  unfold g_Mo_textEnd_22 at h
  by_cases c3 : x3 < x2
  · rw [if_pos c3] at h
    exact f_Mo_textEnd_32 h
  · rw [if_neg c3] at h
    exact f_Mo_textEnd_32 h
set_option maxHeartbeats 4000000 in
theorem f_Mo_textEnd_2 : ∀ (n : Nat) {x2 : Int32} {x3 : Int32} {σ σ' : am_S} {r : Int32} (h : g_Mo_textEnd_2 n x2 x3 σ = some (r, σ')), FR [] [] σ σ' := by
  intro n
  induction n with
  | zero =>
    intro x2 x3 σ σ' r h
    cases h
  | succ n ih =>
  intro x2 x3 σ σ' r h
  unfold g_Mo_textEnd_2 at h
  by_cases c3 : x3 < x2
  · rw [if_pos c3] at h
    obtain ⟨_, h⟩ := gd_some h
    by_cases c8 : (σ.2.1 2 x3.toNatClampNeg) = 0
    · rw [if_pos c8] at h
      exact f_Mo_textEnd_22 h
    · rw [if_neg c8] at h
      exact ih h
  · rw [if_neg c3] at h
    exact f_Mo_textEnd_22 h
set_option maxHeartbeats 4000000 in
theorem f_Mo_textEnd_0 {x1 : Int32} {x2 : Int32} {σ σ' : am_S} {r : Int32} (h : g_Mo_textEnd x1 x2 σ = some (r, σ')) : FR [] [] σ σ' := by
  unfold g_Mo_textEnd at h
  exact f_Mo_textEnd_2 4000 h
theorem f_Mo_textEnd {x1 : Int32} {x2 : Int32} {σ σ' : am_S} {r : Int32} (h : g_Mo_textEnd x1 x2 σ = some (r, σ')) : FR [] [] σ σ' := f_Mo_textEnd_0 h
set_option maxHeartbeats 4000000 in
theorem f_Mo_text_61 {x1 : Int32} {y0 : Int32} {σ σ' : am_S} {r : Int32} (h : g_Mo_text_61 x1 y0 σ = some (r, σ')) : FR [(0, 6), (0, 8)] [] σ σ' := by
  unfold g_Mo_text_61 at h
  exact fr_lf (fr_fi fr_rf (List.mem_of_getElem? (i := 0) rfl)) h
set_option maxHeartbeats 4000000 in
theorem f_Mo_text_40 {x1 : Int32} {x2 : Int32} {y0 : Int32} {σ σ' : am_S} {r : Int32} (h : g_Mo_text_40 x1 x2 y0 σ = some (r, σ')) : FR [(0, 6), (0, 8)] [] σ σ' := by
  unfold g_Mo_text_40 at h
  obtain ⟨_, h⟩ := gd_some h
  by_cases c5 : y0 = 0
  · rw [if_pos c5] at h
    exact fr_tr (fr_fi fr_rf (List.mem_of_getElem? (i := 1) rfl)) (f_Mo_text_61 h)
  · rw [if_neg c5] at h
    exact fr_tr (fr_fi fr_rf (List.mem_of_getElem? (i := 1) rfl)) (f_Mo_text_61 h)
set_option maxHeartbeats 4000000 in
theorem f_Mo_text_28 {x1 : Int32} {y0 : Int32} {σ σ' : am_S} {r : Int32} (h : g_Mo_text_28 x1 y0 σ = some (r, σ')) : FR [(0, 6), (0, 8)] [] σ σ' := by
  unfold g_Mo_text_28 at h
  by_cases c5 : y0 = (-1)
  · rw [if_pos c5] at h
    exact f_Mo_text_40 h
  · rw [if_neg c5] at h
    exact f_Mo_text_40 h
set_option maxHeartbeats 4000000 in
theorem f_Mo_text_0 {σ σ' : am_S} {r : Int32} (h : g_Mo_text σ = some (r, σ')) : FR [(0, 6), (0, 8)] [] σ σ' := by
  unfold g_Mo_text at h
  by_cases c6 : (σ.1.1 0 8) = 0
  · rw [if_pos c6] at h
    obtain ⟨v12, σ12, e12, h⟩ := am_bd_some h
    have f12 : FR [(0, 6), (0, 8)] [] σ σ12 := fr_up (f_Mo_textEnd e12) (fun _ h9 => (by cases h9)) (fun _ h9 => (by cases h9))
    exact fr_tr f12 (f_Mo_text_28 h)
  · rw [if_neg c6] at h
    exact f_Mo_text_28 h
theorem f_Mo_text {σ σ' : am_S} {r : Int32} (h : g_Mo_text σ = some (r, σ')) : FR [(0, 6), (0, 8)] [] σ σ' := f_Mo_text_0 h
set_option maxHeartbeats 4000000 in
theorem f_Mo_pass_59 {y0 : Int32} {σ σ' : am_S} {r : Unit} (h : g_Mo_pass_59 y0 σ = some (r, σ')) : FR [(0, 6), (0, 8)] [] σ σ' := by
  unfold g_Mo_pass_59 at h
  exact fr_lf (fr_fi fr_rf (List.mem_of_getElem? (i := 0) rfl)) h
set_option maxHeartbeats 4000000 in
theorem f_Mo_pass_34 {x1 : Int64} {y0 : Int32} {σ σ' : am_S} {r : Unit} (h : g_Mo_pass_34 x1 y0 σ = some (r, σ')) : FR [(0, 6), (0, 8)] [] σ σ' := by
  unfold g_Mo_pass_34 at h
  obtain ⟨_, h⟩ := gd_some h
  by_cases c5 : y0 = 0
  · rw [if_pos c5] at h
    exact fr_tr (fr_fi fr_rf (List.mem_of_getElem? (i := 1) rfl)) (f_Mo_pass_59 h)
  · rw [if_neg c5] at h
    exact fr_tr (fr_fi fr_rf (List.mem_of_getElem? (i := 1) rfl)) (f_Mo_pass_59 h)
set_option maxHeartbeats 4000000 in
theorem f_Mo_pass_29 {x1 : Int64} {σ σ' : am_S} {r : Unit} (h : g_Mo_pass_29 x1 σ = some (r, σ')) : FR [(0, 6), (0, 8)] [] σ σ' := by
  unfold g_Mo_pass_29 at h
  exact f_Mo_pass_34 h
set_option maxHeartbeats 4000000 in
theorem f_Mo_pass_0 {x1 : Int64} {σ σ' : am_S} {r : Unit} (h : g_Mo_pass x1 σ = some (r, σ')) : FR [(0, 6), (0, 8)] [] σ σ' := by
  unfold g_Mo_pass at h
  by_cases c4 : (σ.1.1 0 8) = 0
  · rw [if_pos c4] at h
    by_cases c8 : (lg_cmp x1 0) < 0
    · rw [if_pos c8] at h
      exact f_Mo_pass_29 h
    · rw [if_neg c8] at h
      by_cases c17 : 0 < (lg_cmp x1 (((σ.1.1 0 7) - (σ.1.1 0 6)).toInt64))
      · rw [if_pos c17] at h
        exact f_Mo_pass_29 h
      · rw [if_neg c17] at h
        exact f_Mo_pass_34 h
  · rw [if_neg c4] at h
    exact f_Mo_pass_29 h
theorem f_Mo_pass {x1 : Int64} {σ σ' : am_S} {r : Unit} (h : g_Mo_pass x1 σ = some (r, σ')) : FR [(0, 6), (0, 8)] [] σ σ' := f_Mo_pass_0 h
set_option maxHeartbeats 4000000 in
theorem f_Mo_enter_0 {x1 : Int32} {x2 : Int64} {σ σ' : am_S} {r : Unit} (h : g_Mo_enter x1 x2 σ = some (r, σ')) : FR [(0, 6), (0, 7), (0, 8)] [] σ σ' := by
  unfold g_Mo_enter at h
  obtain ⟨_, h⟩ := gd_some h
  obtain ⟨_, h⟩ := gd_some h
  obtain ⟨v21, σ21, e21, h⟩ := am_bd_some h
  have f21 : FR [(0, 6), (0, 7), (0, 8)] [] σ σ21 := fr_tr (fr_fi (fr_fi (fr_fi fr_rf (List.mem_of_getElem? (i := 0) rfl)) (List.mem_of_getElem? (i := 1) rfl)) (List.mem_of_getElem? (i := 2) rfl)) (fr_up (f_Mo_pass e21) (by decide) (fun _ h9 => h9))
  exact fr_lf f21 h
theorem f_Mo_enter {x1 : Int32} {x2 : Int64} {σ σ' : am_S} {r : Unit} (h : g_Mo_enter x1 x2 σ = some (r, σ')) : FR [(0, 6), (0, 7), (0, 8)] [] σ σ' := f_Mo_enter_0 h
set_option maxHeartbeats 4000000 in
theorem f_Mo_in_18 {y0 : Int32} {σ σ' : am_S} {r : Int32} (h : g_Mo_in_18 y0 σ = some (r, σ')) : FR [] [] σ σ' := by
  unfold g_Mo_in_18 at h
  obtain ⟨_, h⟩ := gd_some h
  exact fr_lf fr_rf h
set_option maxHeartbeats 4000000 in
theorem f_Mo_in_17 {σ σ' : am_S} {r : Int32} (h : g_Mo_in_17 σ = some (r, σ')) : FR [] [] σ σ' := by
  unfold g_Mo_in_17 at h
  exact f_Mo_in_18 h
set_option maxHeartbeats 4000000 in
theorem f_Mo_in_0 {x0 : Int64} {x2 : Int64} {x4 : Int64} {σ σ' : am_S} {r : Int32} (h : g_Mo_in x0 x2 x4 σ = some (r, σ')) : FR [] [] σ σ' := by
  unfold g_Mo_in at h
  by_cases c4 : (lg_cmp x0 x2) < 0
  · rw [if_pos c4] at h
    exact f_Mo_in_17 h
  · rw [if_neg c4] at h
    by_cases c8 : 0 < (lg_cmp x0 x4)
    · rw [if_pos c8] at h
      exact f_Mo_in_17 h
    · rw [if_neg c8] at h
      exact f_Mo_in_18 h
theorem f_Mo_in {x0 : Int64} {x2 : Int64} {x4 : Int64} {σ σ' : am_S} {r : Int32} (h : g_Mo_in x0 x2 x4 σ = some (r, σ')) : FR [] [] σ σ' := f_Mo_in_0 h
set_option maxHeartbeats 4000000 in
theorem f_Mo_placeIn_34 {y0 : Int32} {σ σ' : am_S} {r : Int32} (h : g_Mo_placeIn_34 y0 σ = some (r, σ')) : FR [] [] σ σ' := by
  unfold g_Mo_placeIn_34 at h
  exact fr_lf fr_rf h
set_option maxHeartbeats 4000000 in
theorem f_Mo_placeIn_33 {σ σ' : am_S} {r : Int32} (h : g_Mo_placeIn_33 σ = some (r, σ')) : FR [] [] σ σ' := by
  unfold g_Mo_placeIn_33 at h
  exact f_Mo_placeIn_34 h
set_option maxHeartbeats 4000000 in
theorem f_Mo_placeIn_0 {x1 : Int32} {x2 : Int64} {x4 : Int32} {σ σ' : am_S} {r : Int32} (h : g_Mo_placeIn x1 x2 x4 σ = some (r, σ')) : FR [] [] σ σ' := by
  unfold g_Mo_placeIn at h
  by_cases c4 : (lg_cmp x2 0) < 0
  · rw [if_pos c4] at h
    exact f_Mo_placeIn_33 h
  · rw [if_neg c4] at h
    obtain ⟨_, h⟩ := gd_some h
    by_cases c14 : 0 < (lg_cmp x2 (((σ.2.1 4 x1.toNatClampNeg) - x4).toInt64))
    · rw [if_pos c14] at h
      exact f_Mo_placeIn_33 h
    · rw [if_neg c14] at h
      obtain ⟨_, h⟩ := gd_some h
      exact f_Mo_placeIn_34 h
theorem f_Mo_placeIn {x1 : Int32} {x2 : Int64} {x4 : Int32} {σ σ' : am_S} {r : Int32} (h : g_Mo_placeIn x1 x2 x4 σ = some (r, σ')) : FR [] [] σ σ' := f_Mo_placeIn_0 h
set_option maxHeartbeats 4000000 in
theorem f_Mo_textIn_44 {y0 : Int32} {σ σ' : am_S} {r : Int32} (h : g_Mo_textIn_44 y0 σ = some (r, σ')) : FR [] [] σ σ' := by
  unfold g_Mo_textIn_44 at h
  exact fr_lf fr_rf h
set_option maxHeartbeats 4000000 in
theorem f_Mo_textIn_43 {σ σ' : am_S} {r : Int32} (h : g_Mo_textIn_43 σ = some (r, σ')) : FR [] [] σ σ' := by
  unfold g_Mo_textIn_43 at h
  exact f_Mo_textIn_44 h
set_option maxHeartbeats 4000000 in
theorem f_Mo_textIn_0 {x1 : Int32} {x2 : Int64} {σ σ' : am_S} {r : Int32} (h : g_Mo_textIn x1 x2 σ = some (r, σ')) : FR [] [] σ σ' := by
  unfold g_Mo_textIn at h
  obtain ⟨v5, σ5, e5, h⟩ := am_bd_some h
  have f5 : FR [] [] σ σ5 := fr_up (f_Mo_placeIn e5) (fun _ h9 => (by cases h9)) (fun _ h9 => (by cases h9))
  by_cases c9 : v5 = (-1)
  · rw [if_pos c9] at h
    exact fr_tr f5 (f_Mo_textIn_43 h)
  · rw [if_neg c9] at h
    obtain ⟨_, h⟩ := gd_some h
    obtain ⟨_, h⟩ := gd_some h
    obtain ⟨v21, σ21, e21, h⟩ := am_bd_some h
    have f21 : FR [] [] σ σ21 := fr_tr f5 (fr_up (f_Mo_textEnd e21) (fun _ h9 => (by cases h9)) (fun _ h9 => (by cases h9)))
    by_cases c23 : v21 = (-1)
    · rw [if_pos c23] at h
      exact fr_tr f21 (f_Mo_textIn_43 h)
    · rw [if_neg c23] at h
      exact fr_tr f21 (f_Mo_textIn_44 h)
theorem f_Mo_textIn {x1 : Int32} {x2 : Int64} {σ σ' : am_S} {r : Int32} (h : g_Mo_textIn x1 x2 σ = some (r, σ')) : FR [] [] σ σ' := f_Mo_textIn_0 h
set_option maxHeartbeats 4000000 in
theorem f_Mo_isHead_77 {y0 : Int32} {σ σ' : am_S} {r : Int32} (h : g_Mo_isHead_77 y0 σ = some (r, σ')) : FR [] [] σ σ' := by
  unfold g_Mo_isHead_77 at h
  obtain ⟨_, h⟩ := gd_some h
  exact fr_lf fr_rf h
set_option maxHeartbeats 4000000 in
theorem f_Mo_isHead_76 {σ σ' : am_S} {r : Int32} (h : g_Mo_isHead_76 σ = some (r, σ')) : FR [] [] σ σ' := by
  unfold g_Mo_isHead_76 at h
  exact f_Mo_isHead_77 h
set_option maxHeartbeats 4000000 in
theorem f_Mo_isHead_0 {σ σ' : am_S} {r : Int32} (h : g_Mo_isHead σ = some (r, σ')) : FR [] [] σ σ' := by
  unfold g_Mo_isHead at h
  by_cases c4 : (σ.1.1 0 3) < 64
  · rw [if_pos c4] at h
    exact f_Mo_isHead_76 h
  · rw [if_neg c4] at h
    obtain ⟨v8, σ8, e8, h⟩ := am_bd_some h
    have f8 : FR [] [] σ σ8 := fr_up (f_Mo_peek e8) (fun _ h9 => (by cases h9)) (fun _ h9 => (by cases h9))
    by_cases c11 : (lg_cmp v8 282584257676671) = 0
    · rw [if_pos c11] at h
      obtain ⟨v15, σ15, e15, h⟩ := am_bd_some h
      have f15 : FR [] [] σ σ15 := fr_tr f8 (fr_up (f_Mo_peek e15) (fun _ h9 => (by cases h9)) (fun _ h9 => (by cases h9)))
      by_cases c18 : (lg_cmp v15 64) = 0
      · rw [if_pos c18] at h
        obtain ⟨v22, σ22, e22, h⟩ := am_bd_some h
        have f22 : FR [] [] σ σ22 := fr_tr f15 (fr_up (f_Mo_peek e22) (fun _ h9 => (by cases h9)) (fun _ h9 => (by cases h9)))
        obtain ⟨v25, σ25, e25, h⟩ := am_bd_some h
        have f25 : FR [] [] σ σ25 := fr_tr f22 (fr_up (f_Mo_in e25) (fun _ h9 => (by cases h9)) (fun _ h9 => (by cases h9)))
        by_cases c26 : v25 = 0
        · rw [if_pos c26] at h
          exact fr_tr f25 (f_Mo_isHead_76 h)
        · rw [if_neg c26] at h
          obtain ⟨v30, σ30, e30, h⟩ := am_bd_some h
          have f30 : FR [] [] σ σ30 := fr_tr f25 (fr_up (f_Mo_peek e30) (fun _ h9 => (by cases h9)) (fun _ h9 => (by cases h9)))
          obtain ⟨v34, σ34, e34, h⟩ := am_bd_some h
          have f34 : FR [] [] σ σ34 := fr_tr f30 (fr_up (f_Mo_peek e34) (fun _ h9 => (by cases h9)) (fun _ h9 => (by cases h9)))
          by_cases c36 : (lg_cmp v30 v34) < 0
          · rw [if_pos c36] at h
            exact fr_tr f34 (f_Mo_isHead_77 h)
          · rw [if_neg c36] at h
            exact fr_tr f34 (f_Mo_isHead_76 h)
      · rw [if_neg c18] at h
        exact fr_tr f15 (f_Mo_isHead_76 h)
    · rw [if_neg c11] at h
      exact fr_tr f8 (f_Mo_isHead_76 h)
theorem f_Mo_isHead {σ σ' : am_S} {r : Int32} (h : g_Mo_isHead σ = some (r, σ')) : FR [] [] σ σ' := f_Mo_isHead_0 h
set_option maxHeartbeats 4000000 in
theorem f_Mo_isName_63 {x1 : Int32} {x2 : Int32} {x3 : Int32} {x4 : Int32} {y0 : Int32} {y1 : Int32} {σ σ' : am_S} {r : Int32} {go : Int32 → Int32 → Int32 → Int32 → am_S → Option (Int32 × am_S)} (hgo : ∀ {x1 : Int32} {x2 : Int32} {x3 : Int32} {x4 : Int32} {σ σ' : am_S} {r : Int32}, go x1 x2 x3 x4 σ = some (r, σ') → FR [] [] σ σ') (h : g_Mo_isName_63 go x1 x2 x3 x4 y0 y1 σ = some (r, σ')) : FR [] [] σ σ' := by
  unfold g_Mo_isName_63 at h
  by_cases c1 : y1 = y0
  · rw [if_pos c1] at h
    exact hgo h
  · rw [if_neg c1] at h
    exact fr_lf fr_rf h
set_option maxHeartbeats 4000000 in
theorem f_Mo_isName_87 {y0 : Int32} {σ σ' : am_S} {r : Int32} (h : g_Mo_isName_87 y0 σ = some (r, σ')) : FR [] [] σ σ' := by
  unfold g_Mo_isName_87 at h
  obtain ⟨_, h⟩ := gd_some h
  exact fr_lf fr_rf h
set_option maxHeartbeats 4000000 in
theorem f_Mo_isName_3 : ∀ (n : Nat) {x1 : Int32} {x2 : Int32} {x3 : Int32} {x4 : Int32} {σ σ' : am_S} {r : Int32} (h : g_Mo_isName_3 n x1 x2 x3 x4 σ = some (r, σ')), FR [] [] σ σ' := by
  intro n
  induction n with
  | zero =>
    intro x1 x2 x3 x4 σ σ' r h
    cases h
  | succ n ih =>
  intro x1 x2 x3 x4 σ σ' r h
  unfold g_Mo_isName_3 at h
  by_cases c3 : x4 < 24
  · rw [if_pos c3] at h
    obtain ⟨_, h⟩ := gd_some h
    obtain ⟨_, h⟩ := gd_some h
    obtain ⟨_, h⟩ := gd_some h
    by_cases c29 : (x1 + x4) < x2
    · rw [if_pos c29] at h
      obtain ⟨_, h⟩ := gd_some h
      exact f_Mo_isName_63 (fun h => ih h) h
    · rw [if_neg c29] at h
      exact f_Mo_isName_63 (fun h => ih h) h
  · rw [if_neg c3] at h
    by_cases c8 : (x2 - x1) < 24
    · rw [if_pos c8] at h
      exact f_Mo_isName_87 h
    · rw [if_neg c8] at h
      exact f_Mo_isName_87 h
set_option maxHeartbeats 4000000 in
theorem f_Mo_isName_0 {x1 : Int32} {x2 : Int32} {x3 : Int32} {σ σ' : am_S} {r : Int32} (h : g_Mo_isName x1 x2 x3 σ = some (r, σ')) : FR [] [] σ σ' := by
  unfold g_Mo_isName at h
  exact f_Mo_isName_3 4000 h
theorem f_Mo_isName {x1 : Int32} {x2 : Int32} {x3 : Int32} {σ σ' : am_S} {r : Int32} (h : g_Mo_isName x1 x2 x3 σ = some (r, σ')) : FR [] [] σ σ' := f_Mo_isName_0 h
set_option maxHeartbeats 4000000 in
theorem f_Mo_lies_72 {y0 : Int32} {σ σ' : am_S} {r : Int32} (h : g_Mo_lies_72 y0 σ = some (r, σ')) : FR [] [] σ σ' := by
  unfold g_Mo_lies_72 at h
  obtain ⟨_, h⟩ := gd_some h
  exact fr_lf fr_rf h
set_option maxHeartbeats 4000000 in
theorem f_Mo_lies_67 {σ σ' : am_S} {r : Int32} (h : g_Mo_lies_67 σ = some (r, σ')) : FR [] [] σ σ' := by
  unfold g_Mo_lies_67 at h
  exact f_Mo_lies_72 h
set_option maxHeartbeats 4000000 in
theorem f_Mo_lies_71 {σ σ' : am_S} {r : Int32} (h : g_Mo_lies_71 σ = some (r, σ')) : FR [] [] σ σ' := by
  unfold g_Mo_lies_71 at h
  exact f_Mo_lies_72 h
set_option maxHeartbeats 4000000 in
theorem f_Mo_lies_0 {x1 : Int32} {σ σ' : am_S} {r : Int32} (h : g_Mo_lies x1 σ = some (r, σ')) : FR [] [] σ σ' := by
  unfold g_Mo_lies at h
  obtain ⟨v6, σ6, e6, h⟩ := am_bd_some h
  have f6 : FR [] [] σ σ6 := fr_up (f_Mo_peek e6) (fun _ h9 => (by cases h9)) (fun _ h9 => (by cases h9))
  obtain ⟨v13, σ13, e13, h⟩ := am_bd_some h
  have f13 : FR [] [] σ σ13 := fr_tr f6 (fr_up (f_Mo_peek e13) (fun _ h9 => (by cases h9)) (fun _ h9 => (by cases h9)))
  obtain ⟨v20, σ20, e20, h⟩ := am_bd_some h
  have f20 : FR [] [] σ σ20 := fr_tr f13 (fr_up (f_Mo_peek e20) (fun _ h9 => (by cases h9)) (fun _ h9 => (by cases h9)))
  by_cases c23 : (lg_cmp v20 8) = 0
  · rw [if_pos c23] at h
    exact fr_tr f20 (f_Mo_lies_67 h)
  · rw [if_neg c23] at h
    obtain ⟨v29, σ29, e29, h⟩ := am_bd_some h
    have f29 : FR [] [] σ σ29 := fr_tr f20 (fr_up (f_Mo_in e29) (fun _ h9 => (by cases h9)) (fun _ h9 => (by cases h9)))
    by_cases c30 : v29 = 0
    · rw [if_pos c30] at h
      exact fr_tr f29 (f_Mo_lies_71 h)
    · rw [if_neg c30] at h
      obtain ⟨v38, σ38, e38, h⟩ := am_bd_some h
      have f38 : FR [] [] σ σ38 := fr_tr f29 (fr_up (f_Mo_in e38) (fun _ h9 => (by cases h9)) (fun _ h9 => (by cases h9)))
      by_cases c39 : v38 = 0
      · rw [if_pos c39] at h
        exact fr_tr f38 (f_Mo_lies_71 h)
      · rw [if_neg c39] at h
        exact fr_tr f38 (f_Mo_lies_67 h)
theorem f_Mo_lies {x1 : Int32} {σ σ' : am_S} {r : Int32} (h : g_Mo_lies x1 σ = some (r, σ')) : FR [] [] σ σ' := f_Mo_lies_0 h
set_option maxHeartbeats 4000000 in
theorem f_Mo_names_159 {x1 : Int32} {x6 : Int32} {x7 : Int32} {x8 : Int32} {σ σ' : am_S} {r : Int32} {go : Int32 → Int32 → Int32 → Int32 → am_S → Option (Int32 × am_S)} (hgo : ∀ {x1 : Int32} {x6 : Int32} {x7 : Int32} {x8 : Int32} {σ σ' : am_S} {r : Int32}, go x1 x6 x7 x8 σ = some (r, σ') → FR [] [3, 4, 5] σ σ') (h : g_Mo_names_159 go x1 x6 x7 x8 σ = some (r, σ')) : FR [] [3, 4, 5] σ σ' := by
  unfold g_Mo_names_159 at h
  exact hgo h
set_option maxHeartbeats 4000000 in
theorem f_Mo_names_158 {x1 : Int32} {x6 : Int32} {x7 : Int32} {x8 : Int32} {y0 : Int32} {y1 : Int32} {σ σ' : am_S} {r : Int32} {go : Int32 → Int32 → Int32 → Int32 → am_S → Option (Int32 × am_S)} (hgo : ∀ {x1 : Int32} {x6 : Int32} {x7 : Int32} {x8 : Int32} {σ σ' : am_S} {r : Int32}, go x1 x6 x7 x8 σ = some (r, σ') → FR [] [3, 4, 5] σ σ') (h : g_Mo_names_158 go x1 x6 x7 x8 y0 y1 σ = some (r, σ')) : FR [] [3, 4, 5] σ σ' := by
  unfold g_Mo_names_158 at h
  obtain ⟨_, h⟩ := gd_some h
  exact fr_tr (fr_ai fr_rf (List.mem_of_getElem? (i := 1) rfl)) (f_Mo_names_159 hgo h)
set_option maxHeartbeats 4000000 in
theorem f_Mo_names_131 {x1 : Int32} {x6 : Int32} {x7 : Int32} {x8 : Int32} {x9 : Int32} {y0 : Int32} {y1 : Int32} {σ σ' : am_S} {r : Int32} {go : Int32 → Int32 → Int32 → Int32 → am_S → Option (Int32 × am_S)} (hgo : ∀ {x1 : Int32} {x6 : Int32} {x7 : Int32} {x8 : Int32} {σ σ' : am_S} {r : Int32}, go x1 x6 x7 x8 σ = some (r, σ') → FR [] [3, 4, 5] σ σ') (h : g_Mo_names_131 go x1 x6 x7 x8 x9 y0 y1 σ = some (r, σ')) : FR [] [3, 4, 5] σ σ' := by
  unfold g_Mo_names_131 at h
  obtain ⟨_, h⟩ := gd_some h
  by_cases c6 : x9 = 0
  · rw [if_pos c6] at h
    obtain ⟨v12, σ12, e12, h⟩ := am_bd_some h
    have f12 : FR [] [3, 4, 5] σ σ12 := fr_tr (fr_ai fr_rf (List.mem_of_getElem? (i := 0) rfl)) (fr_up (f_Mo_peek e12) (fun _ h9 => (by cases h9)) (fun _ h9 => (by cases h9)))
    exact fr_tr f12 (f_Mo_names_158 hgo h)
  · rw [if_neg c6] at h
    exact fr_tr (fr_ai fr_rf (List.mem_of_getElem? (i := 0) rfl)) (f_Mo_names_158 hgo h)
set_option maxHeartbeats 4000000 in
theorem f_Mo_names_95 {x1 : Int32} {x6 : Int32} {x7 : Int32} {x8 : Int32} {y0 : Int32} {σ σ' : am_S} {r : Int32} {go : Int32 → Int32 → Int32 → Int32 → am_S → Option (Int32 × am_S)} (hgo : ∀ {x1 : Int32} {x6 : Int32} {x7 : Int32} {x8 : Int32} {σ σ' : am_S} {r : Int32}, go x1 x6 x7 x8 σ = some (r, σ') → FR [] [3, 4, 5] σ σ') (h : g_Mo_names_95 go x1 x6 x7 x8 y0 σ = some (r, σ')) : FR [] [3, 4, 5] σ σ' := by
  unfold g_Mo_names_95 at h
  obtain ⟨_, h⟩ := gd_some h
  by_cases c11 : y0 = 0
  · rw [if_pos c11] at h
    obtain ⟨v17, σ17, e17, h⟩ := am_bd_some h
    have f17 : FR [] [3, 4, 5] σ σ17 := fr_tr (fr_ai fr_rf (List.mem_of_getElem? (i := 2) rfl)) (fr_up (f_Mo_peek e17) (fun _ h9 => (by cases h9)) (fun _ h9 => (by cases h9)))
    exact fr_tr f17 (f_Mo_names_131 hgo h)
  · rw [if_neg c11] at h
    exact fr_tr (fr_ai fr_rf (List.mem_of_getElem? (i := 2) rfl)) (f_Mo_names_131 hgo h)
set_option maxHeartbeats 4000000 in
theorem f_Mo_names_176 {y0 : Int32} {σ σ' : am_S} {r : Int32} (h : g_Mo_names_176 y0 σ = some (r, σ')) : FR [] [3, 4, 5] σ σ' := by
  unfold g_Mo_names_176 at h
  obtain ⟨_, h⟩ := gd_some h
  exact fr_lf fr_rf h
set_option maxHeartbeats 4000000 in
theorem f_Mo_names_165 {x7 : Int32} {σ σ' : am_S} {r : Int32} (h : g_Mo_names_165 x7 σ = some (r, σ')) : FR [] [3, 4, 5] σ σ' := by
  unfold g_Mo_names_165 at h
  by_cases c3 : x7 = (-1)
  · rw [if_pos c3] at h
    exact f_Mo_names_176 h
  · rw [if_neg c3] at h
    exact f_Mo_names_176 h
set_option maxHeartbeats 4000000 in
theorem f_Mo_names_39 : ∀ (n : Nat) {x1 : Int32} {x6 : Int32} {x7 : Int32} {x8 : Int32} {σ σ' : am_S} {r : Int32} (h : g_Mo_names_39 n x1 x6 x7 x8 σ = some (r, σ')), FR [] [3, 4, 5] σ σ' := by
  intro n
  induction n with
  | zero =>
    intro x1 x6 x7 x8 σ σ' r h
    cases h
  | succ n ih =>
  intro x1 x6 x7 x8 σ σ' r h
  unfold g_Mo_names_39 at h
  by_cases c3 : x8 < 10
  · rw [if_pos c3] at h
    by_cases c6 : x7 = (-1)
    · rw [if_pos c6] at h
      exact f_Mo_names_165 h
    · rw [if_neg c6] at h
      obtain ⟨_, h⟩ := gd_some h
      by_cases c11 : (σ.2.1 5 x8.toNatClampNeg) = 0
      · rw [if_pos c11] at h
        obtain ⟨v16, σ16, e16, h⟩ := am_bd_some h
        have f16 : FR [] [3, 4, 5] σ σ16 := fr_up (f_Mo_isName e16) (fun _ h9 => (by cases h9)) (fun _ h9 => (by cases h9))
        by_cases c17 : v16 = 0
        · rw [if_pos c17] at h
          exact fr_tr f16 (f_Mo_names_159 (fun h => ih h) h)
        · rw [if_neg c17] at h
          obtain ⟨v23, σ23, e23, h⟩ := am_bd_some h
          have f23 : FR [] [3, 4, 5] σ σ23 := fr_tr f16 (fr_up (f_Mo_peek e23) (fun _ h9 => (by cases h9)) (fun _ h9 => (by cases h9)))
          by_cases c26 : (lg_cmp v23 8) = 0
          · rw [if_pos c26] at h
            exact fr_tr f23 (f_Mo_names_95 (fun h => ih h) h)
          · rw [if_neg c26] at h
            exact fr_tr f23 (f_Mo_names_95 (fun h => ih h) h)
      · rw [if_neg c11] at h
        exact f_Mo_names_159 (fun h => ih h) h
  · rw [if_neg c3] at h
    exact f_Mo_names_165 h
set_option maxHeartbeats 4000000 in
theorem f_Mo_names_0 {x1 : Int32} {x2 : Int32} {x3 : Int32} {σ σ' : am_S} {r : Int32} (h : g_Mo_names x1 x2 x3 σ = some (r, σ')) : FR [] [3, 4, 5] σ σ' := by
  unfold g_Mo_names at h
  obtain ⟨v4, σ4, e4, h⟩ := am_bd_some h
  have f4 : FR [] [3, 4, 5] σ σ4 := fr_up (f_Mo_peek e4) (fun _ h9 => (by cases h9)) (fun _ h9 => (by cases h9))
  by_cases c12 : (lg_cmp v4 ((x3 - x2).toInt64)) < 0
  · rw [if_pos c12] at h
    obtain ⟨v21, σ21, e21, h⟩ := am_bd_some h
    have f21 : FR [] [3, 4, 5] σ σ21 := fr_tr f4 (fr_up (f_Mo_textEnd e21) (fun _ h9 => (by cases h9)) (fun _ h9 => (by cases h9)))
    exact fr_tr f21 (f_Mo_names_39 4000 h)
  · rw [if_neg c12] at h
    exact fr_lf f4 h
theorem f_Mo_names {x1 : Int32} {x2 : Int32} {x3 : Int32} {σ σ' : am_S} {r : Int32} (h : g_Mo_names x1 x2 x3 σ = some (r, σ')) : FR [] [3, 4, 5] σ σ' := f_Mo_names_0 h
