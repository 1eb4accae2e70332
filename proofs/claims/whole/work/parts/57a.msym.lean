/-! the symbols, the reference's -/
def symOK (B : Nat → Int32) (a a9 b9 : Nat) : Nat → Nat → Bool
  | 0, _ => true
  | n + 1, k => match txt B a9 b9 (lN (num B (a + 24 * k) 4)) with
    | some _ => symOK B a a9 b9 n (k + 1)
    | none => false
theorem ms_0 {n : Nat} {x : Int32} {σ : am_S} : g_Mo_readSymbols_44 (n + 1) 0 x σ = some (0, σ) := by
  rw [g_Mo_readSymbols_44]
  by_cases c : x < σ.1.1 0 54
  · rw [if_pos c, if_pos rfl]; rfl
  · rw [if_neg c]; rfl
theorem ms_loop {a b a9 b9 t : Nat} {σ : am_S} (h3 : σ.2.1 3 8 = nI a) (hab : a + 24 * t ≤ b) (hb : b ≤ 3000) (h39 : σ.2.1 3 9 = nI a9) (h49 : σ.2.1 4 9 = nI (b9 - a9)) (hab9 : a9 ≤ b9) (hb9 : b9 ≤ 3000) (ht : σ.1.1 0 54 = nI t) : ∀ j k, k + j = t → ∀ n, j + 1 < n → g_Mo_readSymbols_44 n 1 (nI k) σ = some (if symOK (σ.2.1 2) a a9 b9 j k then 1 else 0, σ) := by
  intro j
  induction j with
  | zero =>
    intro k hk n hn
    obtain ⟨n, rfl⟩ : ∃ z, n = z + 1 := ⟨n - 1, by omega⟩
    rw [g_Mo_readSymbols_44, ht, if_neg (Int32.not_lt.mpr (nI_le (by omega) (by omega)))]
    rfl
  | succ j ih =>
    intro k hk n hn
    obtain ⟨n, rfl⟩ : ∃ z, n = z + 2 := ⟨n - 2, by omega⟩
    have e8 : (8 : Int32).toNatClampNeg = 8 := by decide
    have e24 : (24 : Int32) * nI k = nI (24 * k) := pk_mul 24 k
    have hp := pe_ok (p := a + 24 * k) (m := 4) (σ := σ) (by omega) (by decide)
    have hti := ti_ok (s := 9) (x := lN (num (σ.2.1 2) (a + 24 * k) 4)) (σ := σ) (by decide) h39 h49 hab9 hb9
    rw [g_Mo_readSymbols_44, ht, if_pos (nI_lt (by omega) (by omega)), if_neg (by decide), show inb 8 10 = true from by decide, gd_t, e8, h3, e24, nI_add]
    have hp' : g_Mo_peek (nI (a + 24 * k)) 4 σ = some (lN (num (σ.2.1 2) (a + 24 * k) 4), σ) := hp
    have hti' : g_Mo_textIn 9 (lN (num (σ.2.1 2) (a + 24 * k) 4)) σ = some (match txt (σ.2.1 2) a9 b9 (lN (num (σ.2.1 2) (a + 24 * k) 4)) with | some p => nI p | none => -1, σ) := hti
    rw [hp', bd_t, hti', bd_t]
    unfold symOK
    cases hx : txt (σ.2.1 2) a9 b9 (lN (num (σ.2.1 2) (a + 24 * k) 4)) with
    | some p =>
      have := txt_lt hb9 hab9 hx
      show (if nI p = -1 then _ else _) = _
      rw [if_neg (nI_ne (n := p) (by omega))]
      show g_Mo_readSymbols_44 (n + 1) 1 (nI k + 1) σ = _
      rw [show nI k + 1 = nI (k + 1) from nI_add k 1]
      exact ih (k + 1) (by omega) (n + 1) (by omega)
    | none =>
      show (if (-1 : Int32) = -1 then _ else _) = _
      rw [if_pos rfl]
      show g_Mo_readSymbols_44 (n + 1) 0 (nI k + 1) σ = _
      rw [ms_0]
      rfl
