/-! instructions that read and write cells -/
def am_kk (kd : am_K) (kind : Nat) : Bool := match kd with
  | none => kind == 0 || kind == 3
  | some none => kind == 1
  | some (some _) => kind == 2
def am_has (sh : Nat → am_C) (Nw k ci j kind : Nat) : Bool := decide (k < Nw) && match sh k with
  | .inl _ => false
  | .inr o => decide (o.1 = ci) && match o.2[j]? with
    | some kd => am_kk kd kind
    | none => false
def am_rf (sh : Nat → am_C) (k j : Nat) : Nat := match sh k with
  | .inl _ => 0
  | .inr o => match o.2[j]? with
    | some (some (some q)) => q
    | _ => 0
def am_tl : List FieldType := [.int, .long, .byte, .boolean]
def am_tys (ca : Nat → ClassId) : List (ClassId × FieldType) := [(ca 0, .int), (ca 1, .long), (ca 2, .byte), (ca 3, .boolean)]
def am_arr (sh : Nat → am_C) (Nt k : Nat) (ty : FieldType) : Bool := decide (k < Nt) && match sh k with
  | .inl a => decide (a.2.1 = ty) && decide (am_tl[a.1]? = some ty)
  | .inr _ => false
def am_len (sh : Nat → am_C) (k : Nat) : Nat := match sh k with
  | .inl a => a.2.2
  | .inr _ => 0
def am_gv (sh : Nat → am_C) (σ : am_S) (k j kind : Nat) : Value := match kind with
  | 0 => .int (σ.1.1 k j)
  | 1 => .long (σ.1.2 k j)
  | 2 => .ref (am_rf sh k j)
  | _ => .int (σ.1.1 k j)
def am_fit (kind : Nat) (v : Int32) : Prop := match kind with
  | 0 => True
  | 3 => v = 0 ∨ v = 1
  | _ => False
def am_bt (n : Nat) : FieldType := if n = 3 then .boolean else .byte
abbrev am_J : Type := List Prop × List Value × am_S
def am_ri (Nw : Nat) (cst : Nat → Nat → Int32) (σ : am_S) (k j : Nat) : Int32 := if k < Nw then σ.2.1 k j else cst k j
def am_h (sh : Nat → am_C) (Nw Nt : Nat) (cst : Nat → Nat → Int32) (i : Instr) (len : Nat) (x : am_X) (st : List Value) (σ : am_S) : Option am_J := match i, len with
  | .getfield _, 3 => match st with
    | .ref k :: r => some ([am_has sh Nw k x.2.1 x.2.2.1 x.2.2.2 = true], am_gv sh σ k x.2.2.1 x.2.2.2 :: r, σ)
    | _ => none
  | .putfield _, 3 => match st with
    | .int v :: .ref k :: r => some ([am_has sh Nw k x.2.1 x.2.2.1 x.2.2.2 = true, am_fit x.2.2.2 v], r, am_fi σ k x.2.2.1 v)
    | .long v :: .ref k :: r => some ([am_has sh Nw k x.2.1 x.2.2.1 x.2.2.2 = true, x.2.2.2 = 1], r, am_fl σ k x.2.2.1 v)
    | _ => none
  | .arraylength, 1 => match st with
    | .ref k :: r => some ([am_arr sh Nt k (am_tl.getD x.2.1 .int) = true], .int (Int32.ofNat (am_len sh k)) :: r, σ)
    | _ => none
  | .getstatic _, 3 => some ([], x.1 :: st, σ)
  | .iaload, 1 => match st with
    | .int a :: .ref k :: r => some ([am_arr sh Nt k .int = true, vp_in a (am_len sh k)], .int (am_ri Nw cst σ k a.toNatClampNeg) :: r, σ)
    | _ => none
  | .baload, 1 => match st with
    | .int a :: .ref k :: r => some ([am_arr sh Nw k (am_bt x.2.1) = true, vp_in a (am_len sh k)], .int (σ.2.1 k a.toNatClampNeg) :: r, σ)
    | _ => none
  | .laload, 1 => match st with
    | .int a :: .ref k :: r => some ([am_arr sh Nw k .long = true, vp_in a (am_len sh k)], .long (σ.2.2 k a.toNatClampNeg) :: r, σ)
    | _ => none
  | .iastore, 1 => match st with
    | .int v :: .int a :: .ref k :: r => some ([am_arr sh Nw k .int = true, vp_in a (am_len sh k)], r, am_ai σ k a.toNatClampNeg v)
    | _ => none
  | .bastore, 1 => match st with
    | .int v :: .int a :: .ref k :: r => some ([am_arr sh Nw k (am_bt x.2.1) = true, vp_in a (am_len sh k)], r, am_ai σ k a.toNatClampNeg (vp_nar (am_bt x.2.1) v))
    | _ => none
  | .lastore, 1 => match st with
    | .long v :: .int a :: .ref k :: r => some ([am_arr sh Nw k .long = true, vp_in a (am_len sh k)], r, am_al σ k a.toNatClampNeg v)
    | _ => none
  | _, _ => none
theorem am_has_ok {sh : Nat → am_C} {Nw k ci j kind : Nat} (h : am_has sh Nw k ci j kind = true) : k < Nw ∧ ∃ (ks : List am_K) (kd : am_K), sh k = .inr (ci, ks) ∧ ks[j]? = some kd ∧ am_kk kd kind = true := by
  unfold am_has at h
  rw [Bool.and_eq_true] at h
  obtain ⟨h1, h2⟩ := h
  refine ⟨of_decide_eq_true h1, ?_⟩
  split at h2
  · cases h2
  · rename_i o ho
    rw [Bool.and_eq_true] at h2
    obtain ⟨h3, h4⟩ := h2
    split at h4
    · rename_i kd hkd
      have e := of_decide_eq_true h3
      subst e
      exact ⟨o.2, kd, ho, hkd, h4⟩
    · cases h4
theorem am_arr_ok {sh : Nat → am_C} {Nt k : Nat} {ty : FieldType} (h : am_arr sh Nt k ty = true) : k < Nt ∧ ∃ t0 : Nat, sh k = .inl (t0, ty, am_len sh k) ∧ am_tl[t0]? = some ty := by
  unfold am_arr at h
  rw [Bool.and_eq_true] at h
  obtain ⟨h1, h2⟩ := h
  refine ⟨of_decide_eq_true h1, ?_⟩
  split at h2
  · rename_i a ha
    rw [Bool.and_eq_true] at h2
    obtain ⟨h3, h4⟩ := h2
    have e := of_decide_eq_true h3
    have e4 := of_decide_eq_true h4
    subst e
    exact ⟨a.1, by rw [ha]; simp [am_len, ha], e4⟩
  · cases h2
theorem am_tys_at {ca : Nat → ClassId} {t0 : Nat} {ty : FieldType} (h : am_tl[t0]? = some ty) : (am_tys ca)[t0]? = some (ca t0, ty) := by
  match t0, h with
  | 0, h => cases h; rfl
  | 1, h => cases h; rfl
  | 2, h => cases h; rfl
  | 3, h => cases h; rfl
  | n + 4, h => simp [am_tl] at h
theorem am_gv_ok {sh : Nat → am_C} {ρ : Nat → Nat} {σ : am_S} {k ci j kind : Nat} {ks : List am_K} {kd : am_K} (h1 : sh k = .inr (ci, ks)) (h2 : ks[j]? = some kd) (h3 : am_kk kd kind = true) : am_v ρ (am_gv sh σ k j kind) = am_fv ρ σ k j kd := by
  cases kd with
  | none =>
    have h : kind = 0 ∨ kind = 3 := by simpa [am_kk] using h3
    rcases h with rfl | rfl <;> rfl
  | some q =>
    cases q with
    | none =>
      have h : kind = 1 := by simpa [am_kk] using h3
      subst h
      rfl
    | some q =>
      have h : kind = 2 := by simpa [am_kk] using h3
      subst h
      simp [am_gv, am_rf, h1, h2, am_fv, am_v]
def am_R (cl : List vw_C) (sh : Nat → am_C) (Nw : Nat) (D : va_G) (ca : Nat → ClassId) (ρ : Nat → Nat) (A : Nat → Prop) (s : State) (σ : am_S) (H : Heap) (locs : List Loc) : Prop :=
  va_P D cl (am_ws sh ca ρ Nw σ) H ∧ va_D A (am_ws sh ca ρ Nw σ) ∧ va_S A s.heap H locs
/-! the classes: their fields' words among the words, their names apart, their types -/
def am_cok (cl : List vw_C) (tw : List Cond) : Prop := ∀ (ci : Nat) (q : vw_C), cl[ci]? = some q → (∀ w ∈ u_ws q.1 q.2.1 q.2.2, w ∈ tw) ∧ (∀ a, a < q.2.2 → ∀ b, b < q.2.2 → a ≠ b → (q.2.1 a).2.1 ≠ (q.2.1 b).2.1) ∧ ∃ ty : Nat → FieldType, ∀ k, k < q.2.2 → parseFieldDescriptor (q.2.1 k).2.2.1 = some (ty k)
def am_kd (kind : Nat) (d : String) : Prop := match kind with
  | 0 => d = "I"
  | 1 => d = "J"
  | 2 => True
  | 3 => d = "Z"
  | _ => False
def am_fok (Y : am_Y) (cl : List vw_C) (tw nw : List Cond) (host : String) : Prop := ∀ q ∈ Y.2.2.1, ∃ r : vw_C, cl[q.2.1]? = some r ∧ q.2.2.1 < r.2.2 ∧ (r.2.1 q.2.2.1).1 = r.1 ∧ (q.2.2.2.1 ≠ 2 → (r.2.1 q.2.2.1).2.2.2 = false) ∧ am_kd q.2.2.2.1 (r.2.1 q.2.2.1).2.2.1 ∧
  (q.2.2.2.2 = true → Cond.fieldLinkNest Y.1 q.1 r.1 (r.2.1 q.2.2.1).2.1 (r.2.1 q.2.2.1).2.2.1 host ∈ nw) ∧ (q.2.2.2.2 = false → Cond.fieldLink Y.1 q.1 r.1 (r.2.1 q.2.2.1).2.1 (r.2.1 q.2.2.1).2.2.1 ∈ tw)
theorem am_ck_get {Y : am_Y} {pc n : Nat} {x : am_X} (h : am_ck Y pc (.getfield n) x = true) : ∃ b, (n, x.2.1, x.2.2.1, x.2.2.2, b) ∈ Y.2.2.1 := by
  have h : (decide ((n, x.2.1, x.2.2.1, x.2.2.2, true) ∈ Y.2.2.1) || decide ((n, x.2.1, x.2.2.1, x.2.2.2, false) ∈ Y.2.2.1)) = true := h
  rw [Bool.or_eq_true] at h
  rcases h with h | h
  · exact ⟨true, of_decide_eq_true h⟩
  · exact ⟨false, of_decide_eq_true h⟩
theorem am_ck_put {Y : am_Y} {pc n : Nat} {x : am_X} (h : am_ck Y pc (.putfield n) x = true) : ∃ b, (n, x.2.1, x.2.2.1, x.2.2.2, b) ∈ Y.2.2.1 := am_ck_get (pc := pc) (n := n) (x := x) h
