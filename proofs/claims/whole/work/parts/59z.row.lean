/-! rows, both sides -/
theorem WB_le {σ τ : am_S} {N : Nat} {wb : Nat → Nat} (h : WB σ τ wb N) : ∀ j e, e + j = N → wb e ≤ wb N
  | 0, e, q => by rw [show e = N by omega]; exact Nat.le_refl _
  | j + 1, e, q => Nat.le_trans (h e (by omega)).1.1 (WB_le h j (e + 1) (by omega))
theorem ro_m {τ : am_S} {x : Int64} {st k : Nat} (hk : k ≤ 400) (hx : τ.1.2 0 59 = x) : ∀ j i b, i + j = k → st ≤ i → st ≤ b → b < k → ulB x (τ.2.2 30 b) = false → (∀ m, b < m → m < i → ulB x (τ.2.2 30 m) = true) → ∀ n, j < n → ∃ b', st ≤ b' ∧ b' < k ∧ ulB x (τ.2.2 30 b') = false ∧ (∀ m, b' < m → m < k → ulB x (τ.2.2 30 m) = true) ∧ g_Mo_rowOf_58 n (nI k) (nI b) (nI i) τ = some (nI b', τ) := by
  intro j
  induction j with
  | zero =>
    intro i b hi h0 h1 h2 h3 h4 n hn
    obtain ⟨n, rfl⟩ : ∃ z, n = z + 1 := ⟨n - 1, by omega⟩
    refine ⟨b, h1, h2, h3, fun m q1 q2 => h4 m q1 (by omega), ?_⟩
    rw [g_Mo_rowOf_58, if_neg (nI_nlt (by omega) (by omega))]
  | succ j ih =>
    intro i b hi h0 h1 h2 h3 h4 n hn
    obtain ⟨n, rfl⟩ : ∃ z, n = z + 1 := ⟨n - 1, by omega⟩
    rw [g_Mo_rowOf_58]
    unfold g_Mo_rowOf_88
    rw [if_pos (nI_lt (by omega) (by omega)), inb_nI (by omega) (by decide), gd_t, nI_clamp (by omega), hx, il_m, bd_t, show nI i + 1 = nI (i + 1) from nI_add i 1]
    by_cases c : ulB x (τ.2.2 30 i) = true
    · rw [if_pos c, if_neg i10]
      exact ih (i + 1) b (by omega) (by omega) h1 h2 h3 (fun m q1 q2 => by
        by_cases cm : m = i
        · rw [cm]; exact c
        · exact h4 m q1 (by omega)) n (by omega)
    · rw [if_neg c, if_pos rfl]
      exact ih (i + 1) i (by omega) (by omega) h0 (by omega) (by rwa [Bool.not_eq_true] at c) (fun m q1 q2 => by omega) n (by omega)
theorem ro_c {σ : am_S} {x : Int64} {st k b : Nat} {Q : Nat → Int64} (hk : k ≤ 400) (hQ : ∀ m, m < k → σ.2.2 41 m = Q m) (h1 : st ≤ b) (h3 : ulB x (Q b) = false) (h4 : ∀ m, b < m → m < k → ulB x (Q m) = true) : ∀ j i, b + j = i → i < k → ∀ n, j < n → g_Ro_lastNotAbove_5 n (nI st) x (nI i) σ = some (nI b, σ) := by
  intro j
  induction j with
  | zero =>
    intro i hi hik n hn
    obtain ⟨n, rfl⟩ : ∃ z, n = z + 1 := ⟨n - 1, by omega⟩
    have : i = b := by omega
    subst this
    rw [g_Ro_lastNotAbove_5, if_neg (nI_nlt (by omega) (by omega)), inb_nI (by omega) (by decide), gd_t, nI_clamp (by omega), ib_c, bd_t, hQ i hik, h3, if_pos (show (if false = true then (1 : Int32) else 0) = 0 by decide)]
  | succ j ih =>
    intro i hi hik n hn
    obtain ⟨n, rfl⟩ : ∃ z, n = z + 1 := ⟨n - 1, by omega⟩
    obtain ⟨i, rfl⟩ : ∃ z, i = z + 1 := ⟨i - 1, by omega⟩
    rw [g_Ro_lastNotAbove_5, if_neg (nI_nlt (by omega) (by omega)), inb_nI (by omega) (by decide), gd_t, nI_clamp (by omega), ib_c, bd_t, hQ (i + 1) hik, h4 (i + 1) (by omega) hik, if_pos rfl, if_neg i10, pk_m1]
    exact ih i (by omega) (by omega) n (by omega)
theorem rowq_2 {σ τ : am_S} {N U u : Nat} {fs A Z bnd wb : Nat → Nat} {x : Int64} (h : OPN σ τ N U fs A Z bnd wb) (hx : τ.1.2 0 59 = x) (hu : u < U) : ∃ r : Option Nat, g_Ro_rowOf (nI u) x σ = some (oN r, σ) ∧ g_Mo_rowOf (nI u) τ = some (oN r, τ) ∧ ∀ m, r = some m → m < wb U := by
  have hu4 := EV_u4 (OPN_ev h)
  obtain ⟨⟨b1, b2⟩, b3, b4, b5⟩ := OPN_wb h u hu
  have hr := OPN_rw h
  have hmn := WB_le (OPN_wb h) (U - (u + 1)) (u + 1) (by omega)
  have b6 : τ.2.1 28 (u + 1) = nI (wb (u + 1)) := by
    by_cases c : u + 1 < U
    · exact (OPN_wb h (u + 1) c).2.2.2
    · rw [show u + 1 = U by omega]; exact OPN_wN h
  unfold g_Ro_rowOf g_Mo_rowOf
  rw [inb_nI (n := u) (by omega) (by decide), gd_t, inb_nI (n := u) (by omega) (by decide), gd_t, nI_clamp (by omega), b3, b5]
  have key : ∀ j k st, k + j = wb (u + 1) → st ≤ k → ∀ n n', j < n → j < n' → ∃ r : Option Nat, g_Ro_rowOf_12 n (nI u) x (nI st) (nI k) σ = some (oN r, σ) ∧ g_Mo_rowOf_9 n' (nI u) (nI st) (nI k) τ = some (oN r, τ) ∧ ∀ m, r = some m → m < wb U := by
    intro j
    induction j with
    | zero =>
      intro k st hk hst n n' hn hn'
      obtain ⟨n, rfl⟩ : ∃ z, n = z + 1 := ⟨n - 1, by omega⟩
      obtain ⟨n', rfl⟩ : ∃ z, n' = z + 1 := ⟨n' - 1, by omega⟩
      refine ⟨none, ?_, ?_, fun e z => by cases z⟩
      · rw [g_Ro_rowOf_12, inb_nI (by omega) (by decide), gd_t, nI_clamp (by omega), b4, if_neg (nI_nlt (by omega) (by omega))]; rfl
      · rw [g_Mo_rowOf_9, show nI u + 1 = nI (u + 1) from nI_add u 1, inb_nI (by omega) (by decide), gd_t, nI_clamp (by omega), b6, if_neg (nI_nlt (by omega) (by omega))]; rfl
    | succ j ih =>
      intro k st hk hst n n' hn hn'
      obtain ⟨n, rfl⟩ : ∃ z, n = z + 1 := ⟨n - 1, by omega⟩
      obtain ⟨n', rfl⟩ : ∃ z, n' = z + 1 := ⟨n' - 1, by omega⟩
      obtain ⟨k1, k2, k3, k4⟩ := hr.2.2.2 k (by omega)
      obtain ⟨s1, s2, s3, s4⟩ := hr.2.2.2 st (by omega)
      rw [g_Ro_rowOf_12, g_Mo_rowOf_9]
      unfold g_Ro_rowOf_77 g_Ro_rowOf_71 g_Ro_rowOf_77 g_Mo_rowOf_99 g_Mo_rowOf_115
      rw [show nI u + 1 = nI (u + 1) from nI_add u 1, inb_nI (n := u) (by omega) (by decide), inb_nI (n := u + 1) (by omega) (by decide), gd_t, gd_t, nI_clamp (n := u) (by omega), nI_clamp (n := u + 1) (by omega), b4, b6, if_pos (nI_lt (by omega) (by omega)), if_pos (nI_lt (by omega) (by omega)), inb_nI (n := k) (by omega) (by decide), inb_nI (n := st) (by omega) (by decide), nI_clamp (n := k) (by omega), nI_clamp (n := st) (by omega), show nI k + 1 = nI (k + 1) from nI_add k 1, k4]
      by_cases c : τ.2.1 32 k = 0
      · rw [gd_t, if_pos c, gd_t, if_pos c, gd_t, if_pos c]
        exact ih (k + 1) st (by omega) (by omega) n n' (by omega) (by omega)
      · rw [gd_t, if_neg c, gd_t, gd_t, if_neg c, gd_t, gd_t, hx, iw_m, bd_t, gd_t, if_neg c, ib_c, bd_t, gd_t, ib_c, bd_t, s1, k1]
        have go := ih (k + 1) (k + 1) (by omega) (by omega) n n' (by omega) (by omega)
        by_cases h1 : ulB x (τ.2.2 30 st) = true
        · rw [if_pos h1, if_neg i10, show wiB x (τ.2.2 30 st) (τ.2.2 30 k) = false from by unfold wiB; rw [h1]; rfl, if_pos (show (if false = true then (1 : Int32) else 0) = 0 by decide)]
          exact go
        · rw [if_neg h1, if_pos rfl]
          rw [Bool.not_eq_true] at h1
          by_cases h2 : ulB x (τ.2.2 30 k) = true
          · rw [if_pos h2, if_neg i10, show wiB x (τ.2.2 30 st) (τ.2.2 30 k) = true from by unfold wiB; rw [h1, h2]; rfl, if_pos rfl, if_neg i10]
            have hlt : st < k := by
              by_cases z : st = k
              · subst z; rw [h1] at h2; cases h2
              · omega
            obtain ⟨b', q1, q2, q3, q4, q5⟩ := ro_m (st := st) (k := k) (by omega) hx (k - st) st st (by omega) (Nat.le_refl _) (Nat.le_refl _) hlt h1 (fun m h1 h2 => by omega) 4000 (by omega)
            refine ⟨some b', ?_, q5, fun m z => by cases z; omega⟩
            unfold g_Ro_lastNotAbove
            rw [show nI k - 1 = nI (k - 1) from nI_subZ (b := 1) (by omega), ro_c (Q := τ.2.2 30) (k := k) (by omega) (fun m hm => (hr.2.2.2 m (by omega)).1) q1 q3 q4 (k - 1 - b') (k - 1) (by omega) (by omega) 4000 (by omega), bd_t]
            rfl
          · rw [if_neg h2, if_pos rfl]
            rw [Bool.not_eq_true] at h2
            rw [show wiB x (τ.2.2 30 st) (τ.2.2 30 k) = false from by unfold wiB; rw [h1, h2]; rfl, if_pos (show (if false = true then (1 : Int32) else 0) = 0 by decide)]
            exact go
  exact key (wb (u + 1) - wb u) (wb u) (wb u) (by omega) (Nat.le_refl _) 4000 4000 (by omega) (by omega)
