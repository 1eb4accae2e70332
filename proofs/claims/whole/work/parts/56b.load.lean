/-! load, on both sides -/
theorem gld_loop {σ : am_S} {x : Int64} {len m : Nat} (hl : σ.1.1 0 10 = nI len) (h8 : m ≤ 8) (h3 : len + m ≤ 3000) : ∀ j i, i + j = m → ∀ n, j < n → g_F_load_28 n (nI m) x (nI i) (ldC σ x len i) = some (1, fgC (am_fi (ldC σ x len m) 0 10 (nI (len + m)))) := by
  intro j
  induction j with
  | zero =>
    intro i hi n hn
    obtain ⟨n, rfl⟩ : ∃ z, n = z + 1 := ⟨n - 1, by omega⟩
    obtain rfl : i = m := by omega
    have e : (ldC σ x len i).1.1 0 10 = nI len := by rw [ldC_1]; exact hl
    unfold g_F_load_28 g_F_forget
    rw [if_neg (Int32.not_lt.mpr (nI_le (Nat.le_refl _) (by omega))), e, nI_add]
    rfl
  | succ j ih =>
    intro i hi n hn
    obtain ⟨n, rfl⟩ : ∃ z, n = z + 1 := ⟨n - 1, by omega⟩
    have e : (ldC σ x len i).1.1 0 10 = nI len := by rw [ldC_1]; exact hl
    unfold g_F_load_28
    rw [if_pos (nI_lt (by omega) (by omega)), e, nI_add, inb_nI (by omega) (by decide), gd_t, nI_clamp (by omega), show nI i + 1 = nI (i + 1) from nI_add i 1]
    exact ih (i + 1) (by omega) n (by omega)
theorem gld_ok {σ : am_S} {x : Int64} {len m : Nat} (hl : σ.1.1 0 10 = nI len) (h1 : 1 ≤ m) (h8 : m ≤ 8) (h3 : len + m ≤ 3000) : g_F_load (nI m) x σ = some (1, fgC (am_fi (ldC σ x len m) 0 10 (nI (len + m)))) := by
  unfold g_F_load
  rw [if_neg (show ¬ nI m < 1 from Int32.not_lt.mpr (nI_le (a := 1) h1 (by omega))), if_neg (show ¬ 8 < nI m from Int32.not_lt.mpr (nI_le (b := 8) h8 (by decide))), hl, show (3000 : Int32) = nI 3000 from rfl, pk_sub (by omega), if_neg (Int32.not_lt.mpr (nI_le (by omega) (by omega)))]
  exact gld_loop hl h8 h3 m 0 (by omega) 4000 (by omega)
theorem gld_no {σ : am_S} {x : Int64} {n : Int32} (h : n < 1 ∨ 8 < n ∨ 3000 - σ.1.1 0 10 < n) : g_F_load n x σ = some (0, σ) := by
  unfold g_F_load g_F_load_23
  by_cases c1 : n < 1
  · rw [if_pos c1]
  · rw [if_neg c1]
    by_cases c2 : 8 < n
    · rw [if_pos c2]
    · rw [if_neg c2, if_pos ((h.resolve_left c1).resolve_left c2)]
theorem mld_loop {σ : am_S} {x : Int64} {len m : Nat} (hl : σ.1.1 0 3 = nI len) (h8 : m ≤ 8) (h3 : len + m ≤ 3000) : ∀ j i, i + j = m → ∀ n, j < n → g_Mo_load_33 n (nI m) x (nI i) (ldM σ x len i) = some (1, fgM (ldM σ x len m)) := by
  intro j
  induction j with
  | zero =>
    intro i hi n hn
    obtain ⟨n, rfl⟩ : ∃ z, n = z + 1 := ⟨n - 1, by omega⟩
    obtain rfl : i = m := by omega
    unfold g_Mo_load_33 g_Mo_forget
    rw [if_neg (Int32.not_lt.mpr (nI_le (Nat.le_refl _) (by omega)))]
    rfl
  | succ j ih =>
    intro i hi n hn
    obtain ⟨n, rfl⟩ : ∃ z, n = z + 1 := ⟨n - 1, by omega⟩
    have e : (ldM σ x len i).1.1 0 3 = nI (len + i) := ldM_s hl i
    unfold g_Mo_load_33
    rw [if_pos (nI_lt (by omega) (by omega)), e, inb_nI (by omega) (by decide), gd_t, nI_clamp (by omega), show nI i + 1 = nI (i + 1) from nI_add i 1, show nI (len + i) + 1 = nI (len + i + 1) from nI_add (len + i) 1]
    exact ih (i + 1) (by omega) n (by omega)
theorem mld_ok {σ : am_S} {x : Int64} {len m : Nat} (hl : σ.1.1 0 3 = nI len) (h1 : 1 ≤ m) (h8 : m ≤ 8) (h3 : len + m ≤ 3000) : g_Mo_load (nI m) x σ = some (1, fgM (ldM (am_fi σ 0 1 0) x len m)) := by
  unfold g_Mo_load
  rw [if_neg (show ¬ nI m < 1 from Int32.not_lt.mpr (nI_le (a := 1) h1 (by omega))), if_neg (show ¬ 8 < nI m from Int32.not_lt.mpr (nI_le (b := 8) h8 (by decide))), hl, nI_add, show (3000 : Int32) = nI 3000 from rfl, if_neg (Int32.not_lt.mpr (nI_le (by omega) (by omega)))]
  exact mld_loop (σ := am_fi σ 0 1 0) (by rw [fi_no (by omega)]; exact hl) h8 h3 m 0 (by omega) 4000 (by omega)
theorem mld_no {σ : am_S} {x : Int64} {n : Int32} (h : n < 1 ∨ 8 < n ∨ 3000 < σ.1.1 0 3 + n) : g_Mo_load n x σ = some (0, am_fi σ 0 1 0) := by
  unfold g_Mo_load g_Mo_load_28
  by_cases c1 : n < 1
  · rw [if_pos c1]
  · rw [if_neg c1]
    by_cases c2 : 8 < n
    · rw [if_pos c2]
    · rw [if_neg c2, if_pos ((h.resolve_left c1).resolve_left c2)]
/-- the bytes stay the same on both sides -/
theorem ld_by {σx σm : am_S} {x : Int64} {len : Nat} (h : σx.2.1 1 = σm.2.1 2) : ∀ m, m ≤ 8 → (ldC σx x len m).2.1 1 = (ldM σm x len m).2.1 2
  | 0, _ => h
  | m + 1, hm => by
    have ih := ld_by (x := x) (len := len) h m (by omega)
    have e1 : (ldC σx x len (m + 1)).2.1 1 = upd ((ldC σx x len m).2.1 1) (len + m) (bC x m) := rfl
    have e2 : (ldM σm x len (m + 1)).2.1 2 = upd ((ldM σm x len m).2.1 2) (len + m) (bM x m) := rfl
    rw [e1, e2, ih, bCM x m (by omega)]
