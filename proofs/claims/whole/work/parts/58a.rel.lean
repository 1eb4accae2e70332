/-! two programs side by side -/
def R1 {α : Type} (x : Option (α × am_S)) (P : α → am_S → Prop) : Prop := ∃ a s, x = some (a, s) ∧ P a s
def R2 {α β : Type} (x : Option (α × am_S)) (m : Option (β × am_S)) (P : α → am_S → β → am_S → Prop) : Prop := ∃ a s b t, x = some (a, s) ∧ m = some (b, t) ∧ P a s b t
theorem R1_p {α : Type} {a : α} {s : am_S} {P : α → am_S → Prop} (h : P a s) : R1 (some (a, s)) P := ⟨a, s, rfl, h⟩
theorem R1_m {α : Type} {x : Option (α × am_S)} {P Q : α → am_S → Prop} (h : R1 x P) (k : ∀ a s, x = some (a, s) → P a s → Q a s) : R1 x Q := by
  obtain ⟨a, s, e, p⟩ := h
  exact ⟨a, s, e, k a s e p⟩
theorem R1_b {α γ : Type} {x : Option (α × am_S)} {P : α → am_S → Prop} {f : α → am_S → Option (γ × am_S)} {Q : γ → am_S → Prop} (h : R1 x P) (k : ∀ a s, x = some (a, s) → P a s → R1 (f a s) Q) : R1 (am_bd x f) Q := by
  obtain ⟨a, s, e, p⟩ := h
  have := k a s e p
  rw [e, bd_t]
  exact this
theorem R2_p {α β : Type} {a : α} {s : am_S} {b : β} {t : am_S} {P : α → am_S → β → am_S → Prop} (h : P a s b t) : R2 (some (a, s)) (some (b, t)) P := ⟨a, s, b, t, rfl, rfl, h⟩
theorem R2_m {α β : Type} {x : Option (α × am_S)} {m : Option (β × am_S)} {P Q : α → am_S → β → am_S → Prop} (h : R2 x m P) (k : ∀ a s b t, x = some (a, s) → m = some (b, t) → P a s b t → Q a s b t) : R2 x m Q := by
  obtain ⟨a, s, b, t, e, f, p⟩ := h
  exact ⟨a, s, b, t, e, f, k a s b t e f p⟩
theorem R2_b {α β γ δ : Type} {x : Option (α × am_S)} {m : Option (β × am_S)} {P : α → am_S → β → am_S → Prop} {f : α → am_S → Option (γ × am_S)} {g : β → am_S → Option (δ × am_S)} {Q : γ → am_S → δ → am_S → Prop} (h : R2 x m P) (k : ∀ a s b t, x = some (a, s) → m = some (b, t) → P a s b t → R2 (f a s) (g b t) Q) : R2 (am_bd x f) (am_bd m g) Q := by
  obtain ⟨a, s, b, t, e, e', p⟩ := h
  have := k a s b t e e' p
  rw [e, e', bd_t, bd_t]
  exact this
theorem R2_l {α β γ : Type} {x : Option (α × am_S)} {m : Option (β × am_S)} {P : α → am_S → Prop} {f : α → am_S → Option (γ × am_S)} {Q : γ → am_S → β → am_S → Prop} (h : R1 x P) (k : ∀ a s, x = some (a, s) → P a s → R2 (f a s) m Q) : R2 (am_bd x f) m Q := by
  obtain ⟨a, s, e, p⟩ := h
  have := k a s e p
  rw [e, bd_t]
  exact this
theorem R2_r {α β δ : Type} {x : Option (α × am_S)} {m : Option (β × am_S)} {P : β → am_S → Prop} {g : β → am_S → Option (δ × am_S)} {Q : α → am_S → δ → am_S → Prop} (h : R1 m P) (k : ∀ b t, m = some (b, t) → P b t → R2 x (g b t) Q) : R2 x (am_bd m g) Q := by
  obtain ⟨b, t, e, p⟩ := h
  have := k b t e p
  rw [e, bd_t]
  exact this
theorem R2_of {α β : Type} {x : Option (α × am_S)} {m : Option (β × am_S)} {P : α → am_S → Prop} {P' : β → am_S → Prop} {Q : α → am_S → β → am_S → Prop} (h : R1 x P) (h' : R1 m P') (k : ∀ a s b t, x = some (a, s) → m = some (b, t) → P a s → P' b t → Q a s b t) : R2 x m Q := by
  obtain ⟨a, s, e, p⟩ := h
  obtain ⟨b, t, e', p'⟩ := h'
  exact ⟨a, s, b, t, e, e', k a s b t e e' p p'⟩
theorem R1_e {α : Type} {x : Option (α × am_S)} {a : α} {s : am_S} {P : α → am_S → Prop} (e : x = some (a, s)) (h : P a s) : R1 x P := ⟨a, s, e, h⟩
/-! writing and reading -/
theorem ai_at {σ : am_S} {k j : Nat} {v : Int32} : (am_ai σ k j v).2.1 k j = v := by simp [am_ai, upd]
theorem ai_no {σ : am_S} {k j a b : Nat} {v : Int32} (h : a ≠ k ∨ b ≠ j) : (am_ai σ k j v).2.1 a b = σ.2.1 a b := by
  unfold am_ai
  show (if a = k then upd (σ.2.1 k) j v else σ.2.1 a) b = σ.2.1 a b
  by_cases c : a = k
  · rw [if_pos c]
    subst c
    unfold upd
    rw [if_neg (by rcases h with h | h; exact absurd rfl h; exact h)]
  · rw [if_neg c]
theorem al_at {σ : am_S} {k j : Nat} {v : Int64} : (am_al σ k j v).2.2 k j = v := by simp [am_al, vp_updL]
theorem al_no {σ : am_S} {k j a b : Nat} {v : Int64} (h : a ≠ k ∨ b ≠ j) : (am_al σ k j v).2.2 a b = σ.2.2 a b := by
  unfold am_al
  show (if a = k then vp_updL (σ.2.2 k) j v else σ.2.2 a) b = σ.2.2 a b
  by_cases c : a = k
  · rw [if_pos c]
    subst c
    unfold vp_updL
    rw [if_neg (by rcases h with h | h; exact absurd rfl h; exact h)]
  · rw [if_neg c]
theorem ai_f {σ : am_S} {k j : Nat} {v : Int32} : (am_ai σ k j v).1 = σ.1 := rfl
theorem al_f {σ : am_S} {k j : Nat} {v : Int64} : (am_al σ k j v).1 = σ.1 := rfl
theorem ai_l {σ : am_S} {k j : Nat} {v : Int32} : (am_ai σ k j v).2.2 = σ.2.2 := rfl
theorem al_i {σ : am_S} {k j : Nat} {v : Int64} : (am_al σ k j v).2.1 = σ.2.1 := rfl
theorem fi_a {σ : am_S} {k j : Nat} {v : Int32} : (am_fi σ k j v).2 = σ.2 := rfl
theorem fi_l {σ : am_S} {k j : Nat} {v : Int32} : (am_fi σ k j v).1.2 = σ.1.2 := rfl
theorem fl_a {σ : am_S} {k j : Nat} {v : Int64} : (am_fl σ k j v).2 = σ.2 := rfl
theorem fl_i {σ : am_S} {k j : Nat} {v : Int64} : (am_fl σ k j v).1.1 = σ.1.1 := rfl
theorem fl_at {σ : am_S} {k j : Nat} {v : Int64} : (am_fl σ k j v).1.2 k j = v := by simp [am_fl]
theorem fl_no {σ : am_S} {k j a b : Nat} {v : Int64} (h : b ≠ j ∨ a ≠ k) : (am_fl σ k j v).1.2 a b = σ.1.2 a b := by
  unfold am_fl
  show (if b = j then (if a = k then v else σ.1.2 a b) else σ.1.2 a b) = σ.1.2 a b
  by_cases c : b = j
  · rw [if_pos c]
    by_cases d : a = k
    · rcases h with h | h
      · exact absurd c h
      · exact absurd d h
    · rw [if_neg d]
  · rw [if_neg c]
theorem ai_r {σ : am_S} {k j a : Nat} {v : Int32} (h : a ≠ k) : (am_ai σ k j v).2.1 a = σ.2.1 a := by
  show (if a = k then upd (σ.2.1 k) j v else σ.2.1 a) = σ.2.1 a
  rw [if_neg h]
theorem al_r {σ : am_S} {k j a : Nat} {v : Int64} (h : a ≠ k) : (am_al σ k j v).2.2 a = σ.2.2 a := by
  show (if a = k then vp_updL (σ.2.2 k) j v else σ.2.2 a) = σ.2.2 a
  rw [if_neg h]
theorem fr_b {W : List (Nat × Nat)} {A : List Nat} {σ τ : am_S} (h : FR W A σ τ) {k : Nat} (n : A.contains k = false) : τ.2.1 k = σ.2.1 k := (h.2 k (fun z => by simp [List.contains_iff_mem] at n; exact n z)).1
theorem fr_c {W : List (Nat × Nat)} {A : List Nat} {σ τ : am_S} (h : FR W A σ τ) {k : Nat} (n : A.contains k = false) : τ.2.2 k = σ.2.2 k := (h.2 k (fun z => by simp [List.contains_iff_mem] at n; exact n z)).2
theorem fr_i {W : List (Nat × Nat)} {A : List Nat} {σ τ : am_S} (h : FR W A σ τ) {k j : Nat} (n : W.contains (k, j) = false) : τ.1.1 k j = σ.1.1 k j := (h.1 k j (fun z => by simp [List.contains_iff_mem] at n; exact n z)).1
theorem fr_j {W : List (Nat × Nat)} {A : List Nat} {σ τ : am_S} (h : FR W A σ τ) {k j : Nat} (n : W.contains (k, j) = false) : τ.1.2 k j = σ.1.2 k j := (h.1 k j (fun z => by simp [List.contains_iff_mem] at n; exact n z)).2
