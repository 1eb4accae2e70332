/-! An abstract machine over the kit's worlds: a state is four functions (int fields, long fields, int elements, long elements) over a fixed shape of cells; a reference is a cell's number. -/
abbrev am_S : Type := ((Nat → Nat → Int32) × (Nat → Nat → Int64)) × ((Nat → Nat → Int32) × (Nat → Nat → Int64))
abbrev am_K : Type := Option (Option Nat)
abbrev am_C : Type := (Nat × FieldType × Nat) ⊕ (Nat × List am_K)
abbrev am_X : Type := Value × Nat × Nat × Nat
abbrev am_I : Type := Instr × Nat × am_X
abbrev am_F : Type := Nat × List (Option Value) × List Value × am_S
abbrev am_O : Type := Option (List Prop × List Nat × am_F)
def am_fi (σ : am_S) (k j : Nat) (v : Int32) : am_S := ((fun a b => if b = j then (if a = k then v else σ.1.1 a b) else σ.1.1 a b, σ.1.2), σ.2)
def am_fl (σ : am_S) (k j : Nat) (v : Int64) : am_S := ((σ.1.1, fun a b => if b = j then (if a = k then v else σ.1.2 a b) else σ.1.2 a b), σ.2)
def am_ai (σ : am_S) (k j : Nat) (v : Int32) : am_S := (σ.1, (fun a => if a = k then upd (σ.2.1 k) j v else σ.2.1 a, σ.2.2))
def am_al (σ : am_S) (k j : Nat) (v : Int64) : am_S := (σ.1, (σ.2.1, fun a => if a = k then vp_updL (σ.2.2 k) j v else σ.2.2 a))
def am_v (ρ : Nat → Nat) : Value → Value
  | .ref k => .ref (ρ k)
  | v => v
theorem am_v_int (ρ : Nat → Nat) (x : Int32) : am_v ρ (.int x) = .int x := rfl
theorem am_v_long (ρ : Nat → Nat) (x : Int64) : am_v ρ (.long x) = .long x := rfl
theorem am_v_ref (ρ : Nat → Nat) (k : Nat) : am_v ρ (.ref k) = .ref (ρ k) := rfl
theorem am_v_cat (ρ : Nat → Nat) (v : Value) : (am_v ρ v).category = v.category := by cases v <;> rfl
/-! the cells -/
def am_fv (ρ : Nat → Nat) (σ : am_S) (k j : Nat) (kd : am_K) : Value := match kd with
  | none => .int (σ.1.1 k j)
  | some none => .long (σ.1.2 k j)
  | some (some q) => .ref (ρ q)
def am_flds (ρ : Nat → Nat) (σ : am_S) (k : Nat) : Nat → List am_K → List Value
  | _, [] => []
  | j, kd :: r => am_fv ρ σ k j kd :: am_flds ρ σ k (j + 1) r
def am_con (σ : am_S) (ty : FieldType) (k : Nat) : (Nat → Int32) ⊕ (Nat → Int64) ⊕ (Nat → UInt32) ⊕ (Nat → UInt64) ⊕ (Nat → Option Nat) := match ty with
  | .long => .inr (.inl (σ.2.2 k))
  | _ => .inl (σ.2.1 k)
def am_cell (sh : Nat → am_C) (ca : Nat → ClassId) (ρ : Nat → Nat) (σ : am_S) (k : Nat) : va_E := match sh k with
  | .inl a => .inl (ca a.1, a.2.2, am_con σ a.2.1 k)
  | .inr o => .inr (o.1, am_flds ρ σ k 0 o.2)
def am_ws (sh : Nat → am_C) (ca : Nat → ClassId) (ρ : Nat → Nat) (N : Nat) (σ : am_S) : va_W := (List.range N).map (fun k => (ρ k, am_cell sh ca ρ σ k))
theorem am_ws_at {sh : Nat → am_C} {ca : Nat → ClassId} {ρ : Nat → Nat} {N : Nat} {σ : am_S} {k : Nat} (hk : k < N) : (am_ws sh ca ρ N σ)[k]? = some (ρ k, am_cell sh ca ρ σ k) := by
  simp [am_ws, hk]
theorem am_ws_len {sh : Nat → am_C} {ca : Nat → ClassId} {ρ : Nat → Nat} {N : Nat} {σ : am_S} : (am_ws sh ca ρ N σ).length = N := by
  simp [am_ws]
theorem am_flds_len {ρ : Nat → Nat} {σ : am_S} {k : Nat} : ∀ (ks : List am_K) (j : Nat), (am_flds ρ σ k j ks).length = ks.length
  | [], _ => rfl
  | _ :: r, j => by simp [am_flds, am_flds_len r (j + 1)]
theorem am_flds_get {ρ : Nat → Nat} {σ : am_S} {k : Nat} {kd : am_K} : ∀ (ks : List am_K) (j0 j : Nat), ks[j]? = some kd → (am_flds ρ σ k j0 ks)[j]? = some (am_fv ρ σ k (j0 + j) kd)
  | [], _, _, h => by simp at h
  | a :: r, j0, 0, h => by simp at h; subst h; simp [am_flds]
  | a :: r, j0, j + 1, h => by
    have h1 : r[j]? = some kd := by simpa using h
    have := am_flds_get (ρ := ρ) (σ := σ) (k := k) r (j0 + 1) j h1
    simp only [am_flds, List.getElem?_cons_succ]
    rw [this]
    congr 2
    omega
theorem am_flds_congr {ρ : Nat → Nat} {σ τ : am_S} {k : Nat} : ∀ (ks : List am_K) (j : Nat), (∀ b, j ≤ b → σ.1.1 k b = τ.1.1 k b) → (∀ b, j ≤ b → σ.1.2 k b = τ.1.2 k b) → am_flds ρ σ k j ks = am_flds ρ τ k j ks
  | [], _, _, _ => rfl
  | kd :: r, j, h1, h2 => by
    simp only [am_flds]
    rw [am_flds_congr r (j + 1) (fun b hb => h1 b (by omega)) (fun b hb => h2 b (by omega))]
    congr 1
    cases kd with
    | none => simp [am_fv, h1 j (Nat.le_refl _)]
    | some q => cases q with
      | none => simp [am_fv, h2 j (Nat.le_refl _)]
      | some q => rfl
theorem am_flds_seti {ρ : Nat → Nat} {σ : am_S} {k : Nat} {v : Int32} : ∀ (ks : List am_K) (j0 j : Nat), ks[j]? = some none → (am_flds ρ σ k j0 ks).set j (.int v) = am_flds ρ (am_fi σ k (j0 + j) v) k j0 ks
  | [], _, _, h => by simp at h
  | a :: r, j0, 0, h => by
    simp at h
    subst h
    simp only [am_flds, List.set_cons_zero, Nat.add_zero]
    rw [am_flds_congr r (j0 + 1) (σ := am_fi σ k j0 v) (τ := σ) (fun b hb => by simp [am_fi, show b ≠ j0 by omega]) (fun b hb => rfl)]
    simp [am_fv, am_fi]
  | a :: r, j0, j + 1, h => by
    have h1 : r[j]? = some none := by simpa using h
    have e := am_flds_seti (ρ := ρ) (σ := σ) (k := k) (v := v) r (j0 + 1) j h1
    have e2 : j0 + 1 + j = j0 + (j + 1) := by omega
    rw [e2] at e
    simp only [am_flds, List.set_cons_succ, e]
    congr 1
    cases a with
    | none => simp [am_fv, am_fi]
    | some q => cases q <;> rfl
theorem am_flds_setl {ρ : Nat → Nat} {σ : am_S} {k : Nat} {v : Int64} : ∀ (ks : List am_K) (j0 j : Nat), ks[j]? = some (some none) → (am_flds ρ σ k j0 ks).set j (.long v) = am_flds ρ (am_fl σ k (j0 + j) v) k j0 ks
  | [], _, _, h => by simp at h
  | a :: r, j0, 0, h => by
    simp at h
    subst h
    simp only [am_flds, List.set_cons_zero, Nat.add_zero]
    rw [am_flds_congr r (j0 + 1) (σ := am_fl σ k j0 v) (τ := σ) (fun b hb => rfl) (fun b hb => by simp [am_fl, show b ≠ j0 by omega])]
    simp [am_fv, am_fl]
  | a :: r, j0, j + 1, h => by
    have h1 : r[j]? = some (some none) := by simpa using h
    have e := am_flds_setl (ρ := ρ) (σ := σ) (k := k) (v := v) r (j0 + 1) j h1
    have e2 : j0 + 1 + j = j0 + (j + 1) := by omega
    rw [e2] at e
    simp only [am_flds, List.set_cons_succ, e]
    congr 1
    cases a with
    | none => rfl
    | some q => cases q with
      | none => simp [am_fv, am_fl]
      | some q => rfl
theorem am_ws_set {sh : Nat → am_C} {ca : Nat → ClassId} {ρ : Nat → Nat} {N k : Nat} {σ τ : am_S} {e : va_E} (he : e = am_cell sh ca ρ τ k) (h : ∀ q, q ≠ k → am_cell sh ca ρ τ q = am_cell sh ca ρ σ q) : (am_ws sh ca ρ N σ).set k (ρ k, e) = am_ws sh ca ρ N τ := by
  subst he
  apply List.ext_getElem?
  intro i
  by_cases hi : i < N
  · rw [am_ws_at hi, List.getElem?_set, am_ws_len]
    by_cases hk : k = i
    · subst hk
      simp [hi]
    · rw [if_neg hk, am_ws_at hi, h i (fun q => hk q.symm)]
  · rw [List.getElem?_eq_none (by simp [am_ws_len]; omega), List.getElem?_eq_none (by rw [am_ws_len]; omega)]
theorem am_cell_congr {sh : Nat → am_C} {ca : Nat → ClassId} {ρ : Nat → Nat} {σ τ : am_S} {q : Nat} (h1 : ∀ b, τ.1.1 q b = σ.1.1 q b) (h2 : ∀ b, τ.1.2 q b = σ.1.2 q b) (h3 : τ.2.1 q = σ.2.1 q) (h4 : τ.2.2 q = σ.2.2 q) : am_cell sh ca ρ τ q = am_cell sh ca ρ σ q := by
  unfold am_cell
  cases sh q with
  | inl a =>
    obtain ⟨t0, ty, n⟩ := a
    simp only
    congr 3
    unfold am_con
    cases ty <;> simp [h3, h4]
  | inr o =>
    simp only
    rw [am_flds_congr o.2 0 (fun b _ => h1 b) (fun b _ => h2 b)]
