/-! frames: which fields and arrays a function may write (frm.py) -/
def FR (W : List (Nat × Nat)) (A : List Nat) (σ τ : am_S) : Prop := (∀ k j : Nat, (k, j) ∉ W → τ.1.1 k j = σ.1.1 k j ∧ τ.1.2 k j = σ.1.2 k j) ∧ ∀ k : Nat, k ∉ A → τ.2.1 k = σ.2.1 k ∧ τ.2.2 k = σ.2.2 k
theorem fr_rf {W : List (Nat × Nat)} {A : List Nat} {σ : am_S} : FR W A σ σ := ⟨fun _ _ _ => ⟨rfl, rfl⟩, fun _ _ => ⟨rfl, rfl⟩⟩
theorem fr_tr {W : List (Nat × Nat)} {A : List Nat} {σ τ υ : am_S} (h1 : FR W A σ τ) (h2 : FR W A τ υ) : FR W A σ υ := ⟨fun k j h => ⟨(h2.1 k j h).1.trans (h1.1 k j h).1, (h2.1 k j h).2.trans (h1.1 k j h).2⟩, fun k h => ⟨(h2.2 k h).1.trans (h1.2 k h).1, (h2.2 k h).2.trans (h1.2 k h).2⟩⟩
theorem fr_up {W W' : List (Nat × Nat)} {A A' : List Nat} {σ τ : am_S} (h : FR W A σ τ) (hw : ∀ x ∈ W, x ∈ W') (ha : ∀ x ∈ A, x ∈ A') : FR W' A' σ τ := ⟨fun k j q => h.1 k j (fun z => q (hw _ z)), fun k q => h.2 k (fun z => q (ha _ z))⟩
theorem fr_fi {W : List (Nat × Nat)} {A : List Nat} {σ τ : am_S} {k j : Nat} {v : Int32} (h : FR W A σ τ) (m : (k, j) ∈ W) : FR W A σ (am_fi τ k j v) := by
  refine ⟨fun a b q => ⟨?_, (h.1 a b q).2⟩, h.2⟩
  rw [← (h.1 a b q).1]
  show (if b = j then (if a = k then v else τ.1.1 a b) else τ.1.1 a b) = τ.1.1 a b
  by_cases h1 : b = j
  · by_cases h2 : a = k
    · subst h1; subst h2; exact absurd m q
    · rw [if_pos h1, if_neg h2]
  · rw [if_neg h1]
theorem fr_fl {W : List (Nat × Nat)} {A : List Nat} {σ τ : am_S} {k j : Nat} {v : Int64} (h : FR W A σ τ) (m : (k, j) ∈ W) : FR W A σ (am_fl τ k j v) := by
  refine ⟨fun a b q => ⟨(h.1 a b q).1, ?_⟩, h.2⟩
  rw [← (h.1 a b q).2]
  show (if b = j then (if a = k then v else τ.1.2 a b) else τ.1.2 a b) = τ.1.2 a b
  by_cases h1 : b = j
  · by_cases h2 : a = k
    · subst h1; subst h2; exact absurd m q
    · rw [if_pos h1, if_neg h2]
  · rw [if_neg h1]
theorem fr_ai {W : List (Nat × Nat)} {A : List Nat} {σ τ : am_S} {k j : Nat} {v : Int32} (h : FR W A σ τ) (m : k ∈ A) : FR W A σ (am_ai τ k j v) := by
  refine ⟨h.1, fun a q => ⟨?_, (h.2 a q).2⟩⟩
  rw [← (h.2 a q).1]
  show (if a = k then _ else τ.2.1 a) = τ.2.1 a
  rw [if_neg (fun e => q (by rw [e]; exact m))]
theorem fr_al {W : List (Nat × Nat)} {A : List Nat} {σ τ : am_S} {k j : Nat} {v : Int64} (h : FR W A σ τ) (m : k ∈ A) : FR W A σ (am_al τ k j v) := by
  refine ⟨h.1, fun a q => ⟨(h.2 a q).1, ?_⟩⟩
  rw [← (h.2 a q).2]
  show (if a = k then _ else τ.2.2 a) = τ.2.2 a
  rw [if_neg (fun e => q (by rw [e]; exact m))]
theorem fr_lf {α : Type} {W : List (Nat × Nat)} {A : List Nat} {σ τ σ' : am_S} {v r : α} (h : FR W A σ τ) (e : some (v, τ) = some (r, σ')) : FR W A σ σ' := by
  cases e
  exact h
theorem f_Se_isCalled_15 {t : Nat} : ∀ (n : Nat) {x1 x4 : Int32} {σ σ' : am_S} {r : Int32} (h : g_Se_isCalled_15 n t x1 x4 σ = some (r, σ')), FR [] [] σ σ' := by
  intro n
  induction n with
  | zero =>
    intro x1 x4 σ σ' r h
    cases h
  | succ n ih =>
  intro x1 x4 σ σ' r h
  unfold g_Se_isCalled_15 at h
  by_cases c1 : x4 < nI (ss_len.getD t 0)
  · rw [if_pos c1] at h
    obtain ⟨_, h⟩ := gd_some h
    obtain ⟨_, h⟩ := gd_some h
    by_cases c2 : (σ.2.1 1 (x1 + x4).toNatClampNeg) = sk_ch t x4
    · rw [if_pos c2] at h
      exact ih h
    · rw [if_neg c2] at h
      exact fr_lf fr_rf h
  · rw [if_neg c1] at h
    exact fr_lf fr_rf h
theorem f_Se_isCalled {t : Nat} {x1 x2 : Int32} {σ σ' : am_S} {r : Int32} (h : g_Se_isCalled t x1 x2 σ = some (r, σ')) : FR [] [] σ σ' := by
  unfold g_Se_isCalled at h
  by_cases c1 : x2 - x1 = nI (ss_len.getD t 0)
  · rw [if_pos c1] at h
    exact f_Se_isCalled_15 4000 h
  · rw [if_neg c1] at h
    exact fr_lf fr_rf h
set_option maxHeartbeats 4000000 in
theorem f_Cu_text_49 {k : Nat} {x1 : Int32} {σ σ' : am_S} {r : Int32} (h : g_Cu_text_49 k x1 σ = some (r, σ')) : FR [(k, 1), (k, 3)] [] σ σ' := by
  unfold g_Cu_text_49 at h
  exact fr_lf (fr_fi fr_rf (List.mem_of_getElem? (i := 1) rfl)) h
set_option maxHeartbeats 4000000 in
theorem f_Cu_text_10 : ∀ (n : Nat) {k : Nat} {x1 : Int32} {x2 : Int32} {σ σ' : am_S} {r : Int32} (h : g_Cu_text_10 n k x1 x2 σ = some (r, σ')), FR [(k, 1), (k, 3)] [] σ σ' := by
  intro n
  induction n with
  | zero =>
    intro k x1 x2 σ σ' r h
    cases h
  | succ n ih =>
  intro k x1 x2 σ σ' r h
  unfold g_Cu_text_10 at h
  by_cases c4 : x2 < (σ.1.1 k 2)
  · rw [if_pos c4] at h
    by_cases c7 : (σ.1.1 k 3) = 0
    · rw [if_pos c7] at h
      obtain ⟨_, h⟩ := gd_some h
      by_cases c12 : (σ.2.1 1 x2.toNatClampNeg) = 0
      · rw [if_pos c12] at h
        exact fr_lf (fr_fi fr_rf (List.mem_of_getElem? (i := 0) rfl)) h
      · rw [if_neg c12] at h
        exact ih h
    · rw [if_neg c7] at h
      exact f_Cu_text_49 h
  · rw [if_neg c4] at h
    exact f_Cu_text_49 h
set_option maxHeartbeats 4000000 in
theorem f_Cu_text_0 {k : Nat} {σ σ' : am_S} {r : Int32} (h : g_Cu_text k σ = some (r, σ')) : FR [(k, 1), (k, 3)] [] σ σ' := by
  unfold g_Cu_text at h
  exact f_Cu_text_10 4000 h
theorem f_Cu_text {k : Nat} {σ σ' : am_S} {r : Int32} (h : g_Cu_text k σ = some (r, σ')) : FR [(k, 1), (k, 3)] [] σ σ' := f_Cu_text_0 h
set_option maxHeartbeats 4000000 in
theorem f_Cu_set_0 {k : Nat} {x1 : Int32} {x2 : Int32} {σ σ' : am_S} {r : Unit} (h : g_Cu_set k x1 x2 σ = some (r, σ')) : FR [(k, 1), (k, 2), (k, 3)] [] σ σ' := by
  unfold g_Cu_set at h
  exact fr_lf (fr_fi (fr_fi (fr_fi fr_rf (List.mem_of_getElem? (i := 0) rfl)) (List.mem_of_getElem? (i := 1) rfl)) (List.mem_of_getElem? (i := 2) rfl)) h
theorem f_Cu_set {k : Nat} {x1 : Int32} {x2 : Int32} {σ σ' : am_S} {r : Unit} (h : g_Cu_set k x1 x2 σ = some (r, σ')) : FR [(k, 1), (k, 2), (k, 3)] [] σ σ' := f_Cu_set_0 h
set_option maxHeartbeats 4000000 in
theorem f_Cu_number_20 {k : Nat} {σ σ' : am_S} {r : Int64} (h : g_Cu_number_20 k σ = some (r, σ')) : FR [(k, 1), (k, 3)] [] σ σ' := by
  unfold g_Cu_number_20 at h
  exact fr_lf (fr_fi fr_rf (List.mem_of_getElem? (i := 1) rfl)) h
set_option maxHeartbeats 4000000 in
theorem f_Cu_number_34 : ∀ (n : Nat) {k : Nat} {x1 : Int32} {x2 : Int64} {x4 : Int32} {σ σ' : am_S} {r : Int64} (h : g_Cu_number_34 n k x1 x2 x4 σ = some (r, σ')), FR [(k, 1), (k, 3)] [] σ σ' := by
  intro n
  induction n with
  | zero =>
    intro k x1 x2 x4 σ σ' r h
    cases h
  | succ n ih =>
  intro k x1 x2 x4 σ σ' r h
  unfold g_Cu_number_34 at h
  by_cases c2 : x4 < 0
  · rw [if_pos c2] at h
    exact fr_lf (fr_fi fr_rf (List.mem_of_getElem? (i := 0) rfl)) h
  · rw [if_neg c2] at h
    obtain ⟨_, h⟩ := gd_some h
    exact ih h
set_option maxHeartbeats 4000000 in
theorem f_Cu_number_0 {k : Nat} {x1 : Int32} {σ σ' : am_S} {r : Int64} (h : g_Cu_number k x1 σ = some (r, σ')) : FR [(k, 1), (k, 3)] [] σ σ' := by
  unfold g_Cu_number at h
  by_cases c3 : (σ.1.1 k 3) = 0
  · rw [if_pos c3] at h
    by_cases c10 : ((σ.1.1 k 2) - (σ.1.1 k 1)) < x1
    · rw [if_pos c10] at h
      exact f_Cu_number_20 h
    · rw [if_neg c10] at h
      exact f_Cu_number_34 4000 h
  · rw [if_neg c3] at h
    exact f_Cu_number_20 h
theorem f_Cu_number {k : Nat} {x1 : Int32} {σ σ' : am_S} {r : Int64} (h : g_Cu_number k x1 σ = some (r, σ')) : FR [(k, 1), (k, 3)] [] σ σ' := f_Cu_number_0 h
set_option maxHeartbeats 4000000 in
theorem f_Cu_skip_47 {k : Nat} {σ σ' : am_S} {r : Unit} (h : g_Cu_skip_47 k σ = some (r, σ')) : FR [(k, 1), (k, 3)] [] σ σ' := by
  unfold g_Cu_skip_47 at h
  exact fr_lf fr_rf h
set_option maxHeartbeats 4000000 in
theorem f_Cu_skip_28 {k : Nat} {σ σ' : am_S} {r : Unit} (h : g_Cu_skip_28 k σ = some (r, σ')) : FR [(k, 1), (k, 3)] [] σ σ' := by
  unfold g_Cu_skip_28 at h
  exact fr_tr (fr_fi fr_rf (List.mem_of_getElem? (i := 1) rfl)) (f_Cu_skip_47 h)
set_option maxHeartbeats 4000000 in
theorem f_Cu_skip_0 {k : Nat} {x1 : Int64} {σ σ' : am_S} {r : Unit} (h : g_Cu_skip k x1 σ = some (r, σ')) : FR [(k, 1), (k, 3)] [] σ σ' := by
  unfold g_Cu_skip at h
  by_cases c3 : (σ.1.1 k 3) = 0
  · rw [if_pos c3] at h
    by_cases c7 : (lg_cmp x1 0) < 0
    · rw [if_pos c7] at h
      exact f_Cu_skip_28 h
    · rw [if_neg c7] at h
      by_cases c16 : 0 < (lg_cmp x1 (((σ.1.1 k 2) - (σ.1.1 k 1)).toInt64))
      · rw [if_pos c16] at h
        exact f_Cu_skip_28 h
      · rw [if_neg c16] at h
        exact fr_tr (fr_fi fr_rf (List.mem_of_getElem? (i := 0) rfl)) (f_Cu_skip_47 h)
  · rw [if_neg c3] at h
    exact f_Cu_skip_28 h
theorem f_Cu_skip {k : Nat} {x1 : Int64} {σ σ' : am_S} {r : Unit} (h : g_Cu_skip k x1 σ = some (r, σ')) : FR [(k, 1), (k, 3)] [] σ σ' := f_Cu_skip_0 h
set_option maxHeartbeats 4000000 in
theorem f_Cu_leb_128 {k : Nat} {y0 : Int64} {σ σ' : am_S} {r : Int64} (h : g_Cu_leb_128 k y0 σ = some (r, σ')) : FR [(k, 1), (k, 3)] [] σ σ' := by
  unfold g_Cu_leb_128 at h
  exact fr_lf fr_rf h
set_option maxHeartbeats 4000000 in
theorem f_Cu_leb_104 {k : Nat} {x2 : Int64} {x4 : Int32} {y0 : Int32} {σ σ' : am_S} {r : Int64} (h : g_Cu_leb_104 k x2 x4 y0 σ = some (r, σ')) : FR [(k, 1), (k, 3)] [] σ σ' := by
  unfold g_Cu_leb_104 at h
  by_cases c3 : y0 = 0
  · rw [if_pos c3] at h
    exact f_Cu_leb_128 h
  · rw [if_neg c3] at h
    exact f_Cu_leb_128 h
set_option maxHeartbeats 4000000 in
theorem f_Cu_leb_103 {k : Nat} {x2 : Int64} {x4 : Int32} {σ σ' : am_S} {r : Int64} (h : g_Cu_leb_103 k x2 x4 σ = some (r, σ')) : FR [(k, 1), (k, 3)] [] σ σ' := by
  unfold g_Cu_leb_103 at h
  exact f_Cu_leb_104 h
set_option maxHeartbeats 4000000 in
theorem f_Cu_leb_135 {k : Nat} {σ σ' : am_S} {r : Int64} (h : g_Cu_leb_135 k σ = some (r, σ')) : FR [(k, 1), (k, 3)] [] σ σ' := by
  unfold g_Cu_leb_135 at h
  exact fr_lf (fr_fi fr_rf (List.mem_of_getElem? (i := 1) rfl)) h
set_option maxHeartbeats 4000000 in
theorem f_Cu_leb_5 : ∀ (n : Nat) {k : Nat} {x1 : Int32} {x2 : Int64} {x4 : Int32} {σ σ' : am_S} {r : Int64} (h : g_Cu_leb_5 n k x1 x2 x4 σ = some (r, σ')), FR [(k, 1), (k, 3)] [] σ σ' := by
  intro n
  induction n with
  | zero =>
    intro k x1 x2 x4 σ σ' r h
    cases h
  | succ n ih =>
  intro k x1 x2 x4 σ σ' r h
  unfold g_Cu_leb_5 at h
  by_cases c3 : x4 < 10
  · rw [if_pos c3] at h
    by_cases c6 : (σ.1.1 k 3) = 0
    · rw [if_pos c6] at h
      by_cases c11 : (σ.1.1 k 1) < (σ.1.1 k 2)
      · rw [if_pos c11] at h
        obtain ⟨_, h⟩ := gd_some h
        by_cases c39 : ((σ.2.1 1 (σ.1.1 k 1).toNatClampNeg) &&& 255) < 128
        · rw [if_pos c39] at h
          by_cases c41 : x1 = 0
          · rw [if_pos c41] at h
            exact fr_tr (fr_fi fr_rf (List.mem_of_getElem? (i := 0) rfl)) (f_Cu_leb_103 h)
          · rw [if_neg c41] at h
            by_cases c45 : (((σ.2.1 1 (σ.1.1 k 1).toNatClampNeg) &&& 255) &&& 64) = 0
            · rw [if_pos c45] at h
              exact fr_tr (fr_fi fr_rf (List.mem_of_getElem? (i := 0) rfl)) (f_Cu_leb_103 h)
            · rw [if_neg c45] at h
              by_cases c50 : (x4 + 1) < 10
              · rw [if_pos c50] at h
                exact fr_tr (fr_fi fr_rf (List.mem_of_getElem? (i := 0) rfl)) (f_Cu_leb_104 h)
              · rw [if_neg c50] at h
                exact fr_tr (fr_fi fr_rf (List.mem_of_getElem? (i := 0) rfl)) (f_Cu_leb_103 h)
        · rw [if_neg c39] at h
          exact fr_tr (fr_fi fr_rf (List.mem_of_getElem? (i := 0) rfl)) (ih h)
      · rw [if_neg c11] at h
        exact f_Cu_leb_135 h
    · rw [if_neg c6] at h
      exact f_Cu_leb_135 h
  · rw [if_neg c3] at h
    exact f_Cu_leb_135 h
set_option maxHeartbeats 4000000 in
theorem f_Cu_leb_0 {k : Nat} {x1 : Int32} {σ σ' : am_S} {r : Int64} (h : g_Cu_leb k x1 σ = some (r, σ')) : FR [(k, 1), (k, 3)] [] σ σ' := by
  unfold g_Cu_leb at h
  exact f_Cu_leb_5 4000 h
theorem f_Cu_leb {k : Nat} {x1 : Int32} {σ σ' : am_S} {r : Int64} (h : g_Cu_leb k x1 σ = some (r, σ')) : FR [(k, 1), (k, 3)] [] σ σ' := f_Cu_leb_0 h
set_option maxHeartbeats 4000000 in
theorem f_Cu_uleb_0 {k : Nat} {σ σ' : am_S} {r : Int64} (h : g_Cu_uleb k σ = some (r, σ')) : FR [(k, 1), (k, 3)] [] σ σ' := by
  unfold g_Cu_uleb at h
  obtain ⟨v3, σ3, e3, h⟩ := am_bd_some h
  have f3 : FR [(k, 1), (k, 3)] [] σ σ3 := f_Cu_leb e3
  exact fr_lf f3 h
theorem f_Cu_uleb {k : Nat} {σ σ' : am_S} {r : Int64} (h : g_Cu_uleb k σ = some (r, σ')) : FR [(k, 1), (k, 3)] [] σ σ' := f_Cu_uleb_0 h
set_option maxHeartbeats 4000000 in
theorem f_Cu_sleb_0 {k : Nat} {σ σ' : am_S} {r : Int64} (h : g_Cu_sleb k σ = some (r, σ')) : FR [(k, 1), (k, 3)] [] σ σ' := by
  unfold g_Cu_sleb at h
  obtain ⟨v3, σ3, e3, h⟩ := am_bd_some h
  have f3 : FR [(k, 1), (k, 3)] [] σ σ3 := f_Cu_leb e3
  exact fr_lf f3 h
theorem f_Cu_sleb {k : Nat} {σ σ' : am_S} {r : Int64} (h : g_Cu_sleb k σ = some (r, σ')) : FR [(k, 1), (k, 3)] [] σ σ' := f_Cu_sleb_0 h
