/-! the locals: place by place -/
def am_L (ρ : Nat → Nat) (L : List (Option Value)) (ls : Array Slot) : Prop := ls.size = L.length ∧ lv_wf ls ∧ ∀ (i : Nat) (v : Value), L[i]? = some (some v) → ls[i]? = some (.val (am_v ρ v))
def am_as (ρ : Nat → Nat) : Nat → List (Option Value) → List (Nat × Value)
  | _, [] => []
  | i, none :: r => am_as ρ (i + 1) r
  | i, some v :: r => (i, am_v ρ v) :: am_as ρ (i + 1) r
theorem am_as_in {ρ : Nat → Nat} : ∀ (L : List (Option Value)) (j : Nat) (q : Nat × Value), q ∈ am_as ρ j L → ∃ (n : Nat) (v : Value), L[n]? = some (some v) ∧ q = (j + n, am_v ρ v)
  | [], _, _, h => by simp [am_as] at h
  | none :: r, j, q, h => by
    obtain ⟨n, v, h1, h2⟩ := am_as_in r (j + 1) q h
    exact ⟨n + 1, v, by simpa using h1, by rw [h2]; congr 1; omega⟩
  | some w :: r, j, q, h => by
    simp only [am_as, List.mem_cons] at h
    rcases h with h | h
    · exact ⟨0, w, by simp, by rw [h]; rfl⟩
    · obtain ⟨n, v, h1, h2⟩ := am_as_in r (j + 1) q h
      exact ⟨n + 1, v, by simpa using h1, by rw [h2]; congr 1; omega⟩
theorem am_as_of {ρ : Nat → Nat} : ∀ (L : List (Option Value)) (j n : Nat) (v : Value), L[n]? = some (some v) → (j + n, am_v ρ v) ∈ am_as ρ j L
  | [], _, _, _, h => by simp at h
  | a :: r, j, 0, v, h => by
    simp at h
    subst h
    simp [am_as]
  | a :: r, j, n + 1, v, h => by
    have h1 : r[n]? = some (some v) := by simpa using h
    have h2 := am_as_of (ρ := ρ) r (j + 1) n v h1
    have e : j + 1 + n = j + (n + 1) := by omega
    rw [e] at h2
    cases a with
    | none => exact h2
    | some w => exact List.mem_cons_of_mem _ h2
theorem am_L.has {ρ : Nat → Nat} {L : List (Option Value)} {ls : Array Slot} (h : am_L ρ L ls) : lv_has ls L.length (am_as ρ 0 L) := by
  refine ⟨h.1, h.2.1, fun q hq => ?_⟩
  obtain ⟨n, v, h1, h2⟩ := am_as_in L 0 q hq
  subst h2
  simpa using h.2.2 n v h1
theorem am_L.at {ρ : Nat → Nat} {L : List (Option Value)} {ls : Array Slot} (h : am_L ρ L ls) {i : Nat} {v : Value} (hv : L[i]? = some (some v)) : ls[i]? = some (.val (am_v ρ v)) := h.2.2 i v hv
def am_w2 (L : List (Option Value)) (i : Nat) : Bool := match i with
  | 0 => false
  | j + 1 => match L[j]? with
    | some (some v) => v.category == 2
    | _ => false
def am_st1 (L : List (Option Value)) (i : Nat) (v : Value) : Option (List (Option Value)) := if i < L.length then (if am_w2 L i = true then none else some (L.set i (some v))) else none
def am_st2 (L : List (Option Value)) (i : Nat) (v : Value) : Option (List (Option Value)) := if i + 1 < L.length then (if am_w2 L i = true then none else some ((L.set i (some v)).set (i + 1) none)) else none
theorem am_w2_no {L : List (Option Value)} {i j : Nat} {w : Value} (h : ¬ am_w2 L i = true) (hj : j + 1 = i) (hw : L[j]? = some (some w)) : ¬ w.category = 2 := by
  subst hj
  simpa [am_w2, hw] using h
theorem am_st1_ok {ρ : Nat → Nat} {L L' : List (Option Value)} {i : Nat} {v : Value} (h : am_st1 L i v = some L') : i < L.length ∧ L'.length = L.length ∧ ∀ ls' : Array Slot, lv_has ls' L.length ((i, am_v ρ v) :: (am_as ρ 0 L).filter (fun q => !(q.1 == i) && !(q.1 + 1 == i && q.2.category == 2))) → am_L ρ L' ls' := by
  unfold am_st1 at h
  split at h
  · rename_i hi
    split at h
    · cases h
    · rename_i hw
      cases h
      refine ⟨hi, by simp, fun ls' hl => ⟨by rw [hl.1]; simp, hl.2.1, fun j w hj => ?_⟩⟩
      rw [List.getElem?_set] at hj
      by_cases e : i = j
      · subst e
        simp [hi] at hj
        subst hj
        exact hl.2.2 (i, am_v ρ v) List.mem_cons_self
      · rw [if_neg e] at hj
        refine hl.2.2 (j, am_v ρ w) (List.mem_cons_of_mem _ (List.mem_filter.mpr ⟨by simpa using am_as_of (ρ := ρ) L 0 j w hj, ?_⟩))
        have e' : ¬ j = i := fun q => e q.symm
        by_cases e2 : j + 1 = i
        · have := am_w2_no hw e2 hj
          simp [e', e2, am_v_cat, this]
        · simp [e', e2]
  · cases h
theorem am_st2_ok {ρ : Nat → Nat} {L L' : List (Option Value)} {i : Nat} {v : Value} (h : am_st2 L i v = some L') : i + 1 < L.length ∧ L'.length = L.length ∧ ∀ ls' : Array Slot, lv_has ls' L.length ((i, am_v ρ v) :: (am_as ρ 0 L).filter (fun q => !(q.1 == i) && (!(q.1 == i + 1) && !(q.1 + 1 == i && q.2.category == 2)))) → am_L ρ L' ls' := by
  unfold am_st2 at h
  split at h
  · rename_i hi
    split at h
    · cases h
    · rename_i hw
      cases h
      refine ⟨hi, by simp, fun ls' hl => ⟨by rw [hl.1]; simp, hl.2.1, fun j w hj => ?_⟩⟩
      rw [List.getElem?_set] at hj
      by_cases e0 : i + 1 = j
      · subst e0
        simp [hi] at hj
      · rw [if_neg e0, List.getElem?_set] at hj
        by_cases e : i = j
        · subst e
          simp [show i < L.length by omega] at hj
          subst hj
          exact hl.2.2 (i, am_v ρ v) List.mem_cons_self
        · rw [if_neg e] at hj
          refine hl.2.2 (j, am_v ρ w) (List.mem_cons_of_mem _ (List.mem_filter.mpr ⟨by simpa using am_as_of (ρ := ρ) L 0 j w hj, ?_⟩))
          have e' : ¬ j = i := fun q => e q.symm
          have e0' : ¬ j = i + 1 := fun q => e0 q.symm
          by_cases e2 : j + 1 = i
          · have := am_w2_no hw e2 hj
            simp [e', e0', e2, am_v_cat, this]
          · simp [e', e0', e2]
  · cases h
/-! the locals with which a method begins -/
def am_en : List Value → List (Option Value)
  | [] => []
  | v :: r => if v.category = 2 then some v :: none :: am_en r else some v :: am_en r
theorem am_en_at {ρ : Nat → Nat} : ∀ (vs : List Value) (j n : Nat) (v : Value), (am_en vs)[n]? = some (some v) → (j + n, am_v ρ v) ∈ lv_args j (vs.map (am_v ρ))
  | [], _, _, _, h => by simp [am_en] at h
  | a :: r, j, n, v, h => by
    simp only [am_en] at h
    simp only [List.map_cons, lv_args, am_v_cat]
    by_cases hc : a.category = 2
    · rw [if_pos hc] at h ⊢
      match n, h with
      | 0, h => simp at h; subst h; exact List.mem_cons_self
      | 1, h => simp at h
      | n + 2, h =>
        have h1 : (am_en r)[n]? = some (some v) := by simpa using h
        have h2 := am_en_at (ρ := ρ) r (j + 2) n v h1
        have e : j + 2 + n = j + (n + 2) := by omega
        rw [e] at h2
        exact List.mem_cons_of_mem _ h2
    · rw [if_neg hc] at h ⊢
      match n, h with
      | 0, h => simp at h; subst h; exact List.mem_cons_self
      | n + 1, h =>
        have h1 : (am_en r)[n]? = some (some v) := by simpa using h
        have h2 := am_en_at (ρ := ρ) r (j + 1) n v h1
        have e : j + 1 + n = j + (n + 1) := by omega
        rw [e] at h2
        exact List.mem_cons_of_mem _ h2
def am_ent (vs : List Value) (n : Nat) : List (Option Value) := am_en vs ++ List.replicate (n - (am_en vs).length) none
theorem am_en_len (ρ : Nat → Nat) : ∀ (vs : List Value), (lg_sl (vs.map (am_v ρ))).length = (am_en vs).length
  | [] => rfl
  | a :: r => by
    have ih := am_en_len ρ r
    simp only [lg_sl, List.map_cons, List.flatMap_cons, List.length_append, am_en, am_v_cat] at ih ⊢
    by_cases hc : a.category = 2
    · rw [if_pos hc, if_pos hc, ih]
      simp
      omega
    · rw [if_neg hc, if_neg hc, ih]
      simp
      omega
theorem am_ent_ok {ρ : Nat → Nat} {vs : List Value} {n : Nat} {ls : Array Slot} (hn : (am_en vs).length ≤ n) (h : lv_has ls n (lv_args 0 (vs.map (am_v ρ)))) : am_L ρ (am_ent vs n) ls := by
  refine ⟨by rw [h.1]; simp [am_ent]; omega, h.2.1, fun i v hv => ?_⟩
  unfold am_ent at hv
  rw [List.getElem?_append] at hv
  split at hv
  · have := am_en_at (ρ := ρ) vs 0 i v hv
    simpa using h.2.2 _ this
  · rw [List.getElem?_replicate] at hv
    split at hv
    · cases hv
    · cases hv
