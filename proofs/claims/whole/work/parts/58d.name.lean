/-! names of sections -/
def NM (B : Nat → Int32) (f e k : Nat) : Prop := e - f = ss_len.getD k 0 ∧ ∀ m, m < ss_len.getD k 0 → B (f + m) = sk_ch k (nI m)
theorem ss_18 : ∀ k, k < 10 → ss_len.getD k 0 ≤ 18 := by decide
theorem tix_k : ∀ k, k < 10 → tix (nI k) = k := by decide
def spc (k m : Nat) : Int32 := (((sp_L.getD (3 * k + m / 8) 0) >>> ((8 * nI (m % 8)).toInt64 &&& 63)) &&& 255).toInt32
theorem spc_ok : ∀ k, k < 10 → ∀ m, m < 24 → (m < ss_len.getD k 0 → spc k m = sk_ch k (nI m) ∧ ¬ spc k m = 0) ∧ (¬ m < ss_len.getD k 0 → spc k m = 0) := by decide +kernel
theorem ic_loop {f k : Nat} {σ : am_S} (hk : k < 10) (hf : f + ss_len.getD k 0 ≤ 3000) : ∀ j m, m + j = ss_len.getD k 0 → (∀ a, a < m → σ.2.1 1 (f + a) = sk_ch k (nI a)) → ∀ n, j < n → R1 (g_Se_isCalled_15 n k (nI f) (nI m) σ) (fun v s => s = σ ∧ ((v = 1 ∧ ∀ a, a < ss_len.getD k 0 → σ.2.1 1 (f + a) = sk_ch k (nI a)) ∨ (v = 0 ∧ ¬ ∀ a, a < ss_len.getD k 0 → σ.2.1 1 (f + a) = sk_ch k (nI a)))) := by
  have := ss_18 k hk
  intro j
  induction j with
  | zero =>
    intro m hm hpre n hn
    obtain ⟨n, rfl⟩ : ∃ z, n = z + 1 := ⟨n - 1, by omega⟩
    rw [g_Se_isCalled_15, if_neg (nI_nlt (by omega) (by omega))]
    exact R1_p ⟨rfl, Or.inl ⟨rfl, fun a ha => hpre a (by omega)⟩⟩
  | succ j ih =>
    intro m hm hpre n hn
    obtain ⟨n, rfl⟩ : ∃ z, n = z + 1 := ⟨n - 1, by omega⟩
    rw [g_Se_isCalled_15, if_pos (nI_lt (by omega) (by omega)), nI_add, inb_nI (by omega) (by decide), gd_t, show decide (¬ nI m < 0) = true from decide_eq_true (nI_pos (by omega)), gd_t, nI_clamp (by omega)]
    by_cases c : σ.2.1 1 (f + m) = sk_ch k (nI m)
    · rw [if_pos c, show nI m + 1 = nI (m + 1) from nI_add m 1]
      exact ih (m + 1) (by omega) (lt_s hpre c) n (by omega)
    · rw [if_neg c]
      exact R1_p ⟨rfl, Or.inr ⟨rfl, fun q => c (q m (by omega))⟩⟩
theorem ic_c {f e k : Nat} {σ : am_S} (hk : k < 10) (hfe : f ≤ e) (he : e ≤ 3000) : R1 (g_Se_isCalled k (nI f) (nI e) σ) (fun v s => s = σ ∧ ((v = 1 ∧ NM (σ.2.1 1) f e k) ∨ (v = 0 ∧ ¬ NM (σ.2.1 1) f e k))) := by
  have := ss_18 k hk
  unfold g_Se_isCalled
  rw [pk_sub hfe]
  by_cases c : e - f = ss_len.getD k 0
  · rw [if_pos (by rw [c])]
    refine R1_m (ic_loop hk (by omega) (ss_len.getD k 0) 0 (by omega) (fun a ha => absurd ha (by omega)) 4000 (by omega)) (fun v s _ h => ⟨h.1, ?_⟩)
    rcases h.2 with h | h
    · exact Or.inl ⟨h.1, c, h.2⟩
    · exact Or.inr ⟨h.1, fun q => h.2 q.2⟩
  · rw [if_neg (fun z => c ((nI_eq (by omega) (by omega)).mp z))]
    exact R1_p ⟨rfl, Or.inr ⟨rfl, fun q => c q.1⟩⟩
def SPE (τ : am_S) : Prop := τ.2.2 1 = fun j => sp_L.getD j 0
theorem nm_loop {f e k : Nat} {τ : am_S} (hk : k < 10) (hfe : f ≤ e) (he : e ≤ 3000) (hs : SPE τ) : ∀ j m, m + j = 24 → ∀ n, j < n → R1 (g_Mo_isName_3 n (nI f) (nI e) (nI k) (nI m) τ) (fun v s => s = τ ∧ ((v = 1 ∧ e - f < 24 ∧ ∀ a, m ≤ a → a < 24 → spc k a = if f + a < e then τ.2.1 2 (f + a) else 0) ∨ (v = 0 ∧ ¬ (e - f < 24 ∧ ∀ a, m ≤ a → a < 24 → spc k a = if f + a < e then τ.2.1 2 (f + a) else 0)))) := by
  intro j
  induction j with
  | zero =>
    intro m hm n hn
    obtain ⟨n, rfl⟩ : ∃ z, n = z + 1 := ⟨n - 1, by omega⟩
    unfold g_Mo_isName_3 g_Mo_isName_87
    rw [if_neg (show ¬ nI m < 24 from nI_nlt (b := 24) (by omega) (by omega)), pk_sub hfe]
    by_cases c : e - f < 24
    · rw [if_pos (show nI (e - f) < 24 from nI_lt (b := 24) c (by omega))]
      exact R1_p ⟨rfl, Or.inl ⟨rfl, c, fun a h1 h2 => by omega⟩⟩
    · rw [if_neg (show ¬ nI (e - f) < 24 from nI_nlt (b := 24) (by omega) (by omega))]
      exact R1_p ⟨rfl, Or.inr ⟨rfl, fun q => c q.1⟩⟩
  | succ j ih =>
    intro m hm n hn
    obtain ⟨n, rfl⟩ : ∃ z, n = z + 1 := ⟨n - 1, by omega⟩
    have e1 : nI m / 8 = nI (m / 8) := pk_div (d := 8) (by omega) (by omega) (by omega)
    have e2 : nI m - nI m / 8 * 8 = nI (m % 8) := pk_rem (d := 8) (by omega) (by omega) (by omega)
    have e3 : (3 : Int32) * nI k = nI (3 * k) := pk_mul 3 k
    unfold g_Mo_isName_3 g_Mo_isName_63
    rw [if_pos (show nI m < 24 from nI_lt (b := 24) (by omega) (by omega)), show (decide (¬ (8 : Nat) = 0)) = true from by decide, gd_t, gd_t, e2, e1, e3, nI_add, inb_nI (by omega) (by decide), gd_t, nI_add, nI_clamp (n := 3 * k + m / 8) (by omega), hs]
    have key : ∀ y0 : Int32, (y0 = if f + m < e then τ.2.1 2 (f + m) else 0) → R1 (if spc k m = y0 then g_Mo_isName_3 n (nI f) (nI e) (nI k) (nI m + 1) τ else some (0, τ)) (fun v s => s = τ ∧ ((v = 1 ∧ e - f < 24 ∧ ∀ a, m ≤ a → a < 24 → spc k a = if f + a < e then τ.2.1 2 (f + a) else 0) ∨ (v = 0 ∧ ¬ (e - f < 24 ∧ ∀ a, m ≤ a → a < 24 → spc k a = if f + a < e then τ.2.1 2 (f + a) else 0)))) := by
      intro y0 hy
      by_cases c : spc k m = y0
      · rw [if_pos c, show nI m + 1 = nI (m + 1) from nI_add m 1]
        refine R1_m (ih (m + 1) (by omega) n (by omega)) (fun v s _ h => ⟨h.1, ?_⟩)
        have hx : (∀ a, m ≤ a → a < 24 → spc k a = if f + a < e then τ.2.1 2 (f + a) else 0) ↔ (∀ a, m + 1 ≤ a → a < 24 → spc k a = if f + a < e then τ.2.1 2 (f + a) else 0) := by
          constructor
          · exact fun q a h1 h2 => q a (by omega) h2
          · intro q a h1 h2
            by_cases z : a = m
            · rw [z, c, hy]
            · exact q a (by omega) h2
        rw [hx]
        exact h.2
      · rw [if_neg c]
        exact R1_p ⟨rfl, Or.inr ⟨rfl, fun q => c ((q.2 m (by omega) (by omega)).trans hy.symm)⟩⟩
    by_cases c : f + m < e
    · rw [if_pos (nI_lt c (by omega)), inb_nI (by omega) (by decide), gd_t, nI_clamp (by omega)]
      exact key _ (by rw [if_pos c])
    · rw [if_neg (nI_nlt (by omega) (by omega))]
      exact key _ (by rw [if_neg c])
theorem nm_m {f e k : Nat} {τ : am_S} (hk : k < 10) (hfe : f ≤ e) (he : e ≤ 3000) (hs : SPE τ) (hz : ∀ a, f ≤ a → a < e → ¬ τ.2.1 2 a = 0) : R1 (g_Mo_isName (nI f) (nI e) (nI k) τ) (fun v s => s = τ ∧ ((v = 1 ∧ NM (τ.2.1 2) f e k) ∨ (v = 0 ∧ ¬ NM (τ.2.1 2) f e k))) := by
  unfold g_Mo_isName
  refine R1_m (nm_loop hk hfe he hs 24 0 (by omega) 4000 (by omega)) (fun v s _ h => ⟨h.1, ?_⟩)
  have h18 := ss_18 k hk
  have sp := spc_ok k hk
  have hx : (e - f < 24 ∧ ∀ a, 0 ≤ a → a < 24 → spc k a = if f + a < e then τ.2.1 2 (f + a) else 0) ↔ NM (τ.2.1 2) f e k := by
    constructor
    · intro q
      have l1 : ¬ ss_len.getD k 0 < e - f := fun z => by
        have a1 := q.2 (ss_len.getD k 0) (by omega) (by omega)
        rw [if_pos (by omega), (sp _ (by omega)).2 (by omega)] at a1
        exact hz _ (by omega) (by omega) a1.symm
      have l2 : ¬ e - f < ss_len.getD k 0 := fun z => by
        have a1 := q.2 (e - f) (by omega) (by omega)
        rw [if_neg (by omega)] at a1
        exact ((sp (e - f) (by omega)).1 z).2 a1
      refine ⟨by omega, fun m hm => ?_⟩
      have a1 := q.2 m (by omega) (by omega)
      rw [if_pos (by omega), ((sp m (by omega)).1 hm).1] at a1
      exact a1.symm
    · intro q
      refine ⟨by have := q.1; omega, fun a _ ha => ?_⟩
      have q1 := q.1
      by_cases c : a < ss_len.getD k 0
      · rw [if_pos (by omega), ((sp a ha).1 c).1, q.2 a c]
      · rw [if_neg (by omega), (sp a ha).2 c]
  rw [hx] at h
  exact h.2
