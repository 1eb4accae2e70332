/-! the cursors of both sides, in numbers -/
theorem inb_nI {n N : Nat} (h : n < N) (hN : N < 2 ^ 31) : inb (nI n) N = true := decide_eq_true (vp_in_nI h hN)
theorem gd_t {α : Type} {A : Option α} : am_gd true A = A := rfl
theorem bd_t {α β : Type} {v : α} {s : am_S} {f : α → am_S → Option β} : am_bd (some (v, s)) f = f v s := rfl
def CU (σ : am_S) (k p q : Nat) (b : Bool) : Prop := σ.1.1 k 1 = nI p ∧ σ.1.1 k 2 = nI q ∧ σ.1.1 k 3 = (if b then 1 else 0) ∧ p ≤ q ∧ q ≤ 3000
def RU (σ : am_S) (p q : Nat) (b : Bool) : Prop := σ.1.1 0 6 = nI p ∧ σ.1.1 0 7 = nI q ∧ σ.1.1 0 8 = (if b then 1 else 0) ∧ p ≤ q ∧ q ≤ 3000
theorem gn_loop {k p m : Nat} {σ : am_S} (h1 : σ.1.1 k 1 = nI p) (hpm : p + m ≤ 3000) (hm : m ≤ 8) : ∀ i, i ≤ m → ∀ n, i < n → g_Cu_number_34 n k (nI m) (lN (num (σ.2.1 1) (p + i) (m - i))) (nI i + (-1)) σ = some (lN (num (σ.2.1 1) p m), am_fi σ k 1 (nI (p + m))) := by
  intro i
  induction i with
  | zero =>
    intro _ n hn
    obtain ⟨n, rfl⟩ : ∃ j, n = j + 1 := ⟨n - 1, by omega⟩
    unfold g_Cu_number_34
    rw [if_pos (by decide), h1, nI_add, Nat.add_zero, Nat.sub_zero]
  | succ i ih =>
    intro hi n hn
    obtain ⟨n, rfl⟩ : ∃ j, n = j + 1 := ⟨n - 1, by omega⟩
    have e : nI (i + 1) + (-1) = nI i := pk_m1 i
    rw [e]
    unfold g_Cu_number_34
    rw [if_neg (nI_pos (by omega)), h1, nI_add, inb_nI (by omega) (by decide), gd_t, nI_clamp (by omega), show p + (i + 1) = p + i + 1 by omega, num_step (by omega), show m - (i + 1) + 1 = m - i by omega]
    exact ih (by omega) n (by omega)
theorem gn_ok {k p q m : Nat} {σ : am_S} (h : CU σ k p q false) (hm : m ≤ 8) (hl : p + m ≤ q) : g_Cu_number k (nI m) σ = some (lN (num (σ.2.1 1) p m), am_fi σ k 1 (nI (p + m))) := by
  obtain ⟨h1, h2, h3, hpq, hq⟩ := h
  unfold g_Cu_number
  rw [if_pos (by rw [h3]; rfl), if_neg (by rw [h1, h2, pk_sub hpq]; exact Int32.not_lt.mpr (nI_le (by omega) (by omega)))]
  have h0 := gn_loop (σ := σ) h1 (by omega) hm m (Nat.le_refl _) 4000 (by omega)
  rw [Nat.sub_self] at h0
  rw [Int32.sub_eq_add_neg]
  exact h0
theorem gn_bad {k p q m : Nat} {b : Bool} {σ : am_S} (h : CU σ k p q b) (hm : m ≤ 8) (hb : b = true ∨ q < p + m) : g_Cu_number k (nI m) σ = some (0, am_fi σ k 3 1) := by
  obtain ⟨h1, h2, h3, hpq, hq⟩ := h
  unfold g_Cu_number g_Cu_number_20
  by_cases c : σ.1.1 k 3 = 0
  · rw [if_pos c]
    rcases hb with hb | hb
    · rw [h3, hb] at c
      exact absurd c (by decide)
    · rw [if_pos (by rw [h1, h2, pk_sub hpq]; exact nI_lt (by omega) (by omega))]
  · rw [if_neg c]
theorem pe_loop {p m : Nat} {σ : am_S} (hpm : p + m ≤ 3000) (hm : m ≤ 8) : ∀ i, i ≤ m → ∀ n, i < n → g_Mo_peek_7 n (nI p) (lN (num (σ.2.1 2) (p + i) (m - i))) (nI i + (-1)) σ = some (lN (num (σ.2.1 2) p m), σ) := by
  intro i
  induction i with
  | zero =>
    intro _ n hn
    obtain ⟨n, rfl⟩ : ∃ j, n = j + 1 := ⟨n - 1, by omega⟩
    unfold g_Mo_peek_7
    rw [if_pos (by decide), Nat.add_zero, Nat.sub_zero]
  | succ i ih =>
    intro hi n hn
    obtain ⟨n, rfl⟩ : ∃ j, n = j + 1 := ⟨n - 1, by omega⟩
    have e : nI (i + 1) + (-1) = nI i := pk_m1 i
    rw [e]
    unfold g_Mo_peek_7
    rw [if_neg (nI_pos (by omega)), nI_add, inb_nI (by omega) (by decide), gd_t, nI_clamp (by omega), show p + (i + 1) = p + i + 1 by omega, num_step (by omega), show m - (i + 1) + 1 = m - i by omega]
    exact ih (by omega) n (by omega)
theorem pe_ok {p m : Nat} {σ : am_S} (hpm : p + m ≤ 3000) (hm : m ≤ 8) : g_Mo_peek (nI p) (nI m) σ = some (lN (num (σ.2.1 2) p m), σ) := by
  unfold g_Mo_peek
  have h0 := pe_loop (σ := σ) hpm hm m (Nat.le_refl _) 4000 (by omega)
  rw [Nat.sub_self] at h0
  rw [Int32.sub_eq_add_neg]
  exact h0
theorem ru_ok {p q m : Nat} {σ : am_S} (h : RU σ p q false) (hm : m ≤ 8) (hl : p + m ≤ q) : g_Mo_u (nI m) σ = some (lN (num (σ.2.1 2) p m), am_fi σ 0 6 (nI (p + m))) := by
  obtain ⟨h1, h2, h3, hpq, hq⟩ := h
  unfold g_Mo_u
  rw [if_pos (by rw [h3]; rfl), if_neg (by rw [h1, h2, nI_add]; exact Int32.not_lt.mpr (nI_le (by omega) (by omega))), h1, nI_add, pk_sub (by omega), show p + m - m = p by omega, pe_ok (by omega) hm]
  rfl
theorem ru_bad {p q m : Nat} {b : Bool} {σ : am_S} (h : RU σ p q b) (hm : m ≤ 8) (hb : b = true ∨ q < p + m) : g_Mo_u (nI m) σ = some (0, am_fi σ 0 8 1) := by
  obtain ⟨h1, h2, h3, hpq, hq⟩ := h
  unfold g_Mo_u g_Mo_u_20
  by_cases c : σ.1.1 0 8 = 0
  · rw [if_pos c]
    rcases hb with hb | hb
    · rw [h3, hb] at c
      exact absurd c (by decide)
    · rw [if_pos (by rw [h1, h2, nI_add]; exact nI_lt (by omega) (by omega))]
  · rw [if_neg c]
/-! a text's end -/
def tEnd (B : Nat → Int32) : Nat → Nat → Option Nat
  | 0, _ => none
  | n + 1, p => if B p = 0 then some p else tEnd B n (p + 1)
theorem tEnd_lt {B : Nat → Int32} : ∀ {n p e : Nat}, tEnd B n p = some e → p ≤ e ∧ e < p + n
  | 0, _, _, h => by cases h
  | n + 1, p, e, h => by
    unfold tEnd at h
    by_cases c : B p = 0
    · rw [if_pos c] at h
      cases h
      omega
    · rw [if_neg c] at h
      have := tEnd_lt h
      omega
theorem gt_loop {k q : Nat} {σ : am_S} (h2 : σ.1.1 k 2 = nI q) (h3 : σ.1.1 k 3 = 0) (hq : q ≤ 3000) {x1 : Int32} : ∀ i p, p + i = q → ∀ n, i < n → g_Cu_text_10 n k x1 (nI p) σ = match tEnd (σ.2.1 1) i p with
    | some e => some (x1, am_fi σ k 1 (nI (e + 1)))
    | none => some (x1, am_fi σ k 3 1) := by
  intro i
  induction i with
  | zero =>
    intro p hp n hn
    obtain ⟨n, rfl⟩ : ∃ j, n = j + 1 := ⟨n - 1, by omega⟩
    unfold g_Cu_text_10 g_Cu_text_49
    rw [if_neg (by rw [h2]; exact Int32.not_lt.mpr (nI_le (by omega) (by omega)))]
    rfl
  | succ i ih =>
    intro p hp n hn
    obtain ⟨n, rfl⟩ : ∃ j, n = j + 1 := ⟨n - 1, by omega⟩
    unfold g_Cu_text_10
    rw [if_pos (by rw [h2]; exact nI_lt (by omega) (by omega)), if_pos h3, inb_nI (by omega) (by decide), gd_t, nI_clamp (by omega)]
    unfold tEnd
    by_cases c : σ.2.1 1 p = 0
    · rw [if_pos c, if_pos c]
      rw [show nI p + 1 = nI (p + 1) from nI_add p 1]
    · rw [if_neg c, if_neg c, show nI p + 1 = nI (p + 1) from nI_add p 1]
      exact ih (p + 1) (by omega) n (by omega)
theorem gt_ok {k p q : Nat} {σ : am_S} (h : CU σ k p q false) : g_Cu_text k σ = match tEnd (σ.2.1 1) (q - p) p with
    | some e => some (nI p, am_fi σ k 1 (nI (e + 1)))
    | none => some (nI p, am_fi σ k 3 1) := by
  obtain ⟨h1, h2, h3, hpq, hq⟩ := h
  unfold g_Cu_text
  rw [h1]
  exact gt_loop h2 (by rw [h3]; rfl) hq (q - p) p (by omega) 4000 (by omega)
theorem te_loop {q : Nat} {σ : am_S} (hq : q ≤ 3000) : ∀ i p, p + i = q → ∀ n, i < n → g_Mo_textEnd_2 n (nI q) (nI p) σ = match tEnd (σ.2.1 2) i p with
    | some e => some (nI e, σ)
    | none => some (-1, σ) := by
  intro i
  induction i with
  | zero =>
    intro p hp n hn
    obtain ⟨n, rfl⟩ : ∃ j, n = j + 1 := ⟨n - 1, by omega⟩
    unfold g_Mo_textEnd_2 g_Mo_textEnd_22 g_Mo_textEnd_32
    rw [if_neg (Int32.not_lt.mpr (nI_le (by omega) (by omega))), if_neg (Int32.not_lt.mpr (nI_le (by omega) (by omega)))]
    rfl
  | succ i ih =>
    intro p hp n hn
    obtain ⟨n, rfl⟩ : ∃ j, n = j + 1 := ⟨n - 1, by omega⟩
    unfold g_Mo_textEnd_2
    rw [if_pos (nI_lt (by omega) (by omega)), inb_nI (by omega) (by decide), gd_t, nI_clamp (by omega)]
    unfold tEnd
    by_cases c : σ.2.1 2 p = 0
    · rw [if_pos c, if_pos c]
      unfold g_Mo_textEnd_22 g_Mo_textEnd_32
      rw [if_pos (nI_lt (by omega) (by omega))]
    · rw [if_neg c, if_neg c, show nI p + 1 = nI (p + 1) from nI_add p 1]
      exact ih (p + 1) (by omega) n (by omega)
theorem te_ok {p q : Nat} {σ : am_S} (hpq : p ≤ q) (hq : q ≤ 3000) : g_Mo_textEnd (nI p) (nI q) σ = match tEnd (σ.2.1 2) (q - p) p with
    | some e => some (nI e, σ)
    | none => some (-1, σ) := by
  unfold g_Mo_textEnd
  exact te_loop hq (q - p) p (by omega) 4000 (by omega)
