/-! whether an entry's values are right, reference -/
theorem txt_tx {B : Nat → Int32} {a b p : Nat} {x : Int64} (hb : b ≤ 3000) (hab : a ≤ b) (h : txt B a b x = some p) : TX B p := by
  obtain ⟨h1, h2, e, he⟩ := txt_lt hb hab h
  have := tEnd_lt he
  exact ⟨e, by omega, by omega, (tEnd_nz he).2⟩
theorem nmS_tx {B : Nat → Int32} {A Z : Nat → Nat} {f : Int32} {v base : Int64} {p : Nat} (hS : ∀ s, s < 10 → A s + Z s ≤ 3000) (h8 : f = 8 → ∃ b, v = lN b ∧ TX B b) (h : nmS B A Z f v base = some p) : TX B p := by
  unfold nmS at h
  by_cases c1 : f = 8
  · rw [if_pos c1] at h
    obtain ⟨b, rfl, e, q1, q2, q3⟩ := h8 c1
    rw [lN_toInt (by omega)] at h
    cases h
    exact ⟨e, q1, q2, q3⟩
  · rw [if_neg c1] at h
    by_cases c2 : f = 14
    · rw [if_pos c2] at h
      exact txt_tx (hS 2 (by decide)) (by omega) h
    · rw [if_neg c2] at h
      by_cases c3 : f = 31
      · rw [if_pos c3] at h
        exact txt_tx (hS 3 (by decide)) (by omega) h
      · rw [if_neg c3] at h
        by_cases c4 : f = 37
        · rw [if_pos c4] at h
          split at h
          · exact txt_tx (hS 2 (by decide)) (by omega) h
          · cases h
        · rw [if_neg c4] at h
          cases h
def PQ (C : Prop) (τ0 : am_S) (y : Int32) (t : am_S) : Prop := FR [(0, 37)] [] τ0 t ∧ ((y = 1 ∧ C) ∨ (y = 0 ∧ ¬ C))
def cU (τ : am_S) (e : Nat) : Prop := τ.2.1 17 e = 17 → ∀ m, 7 ≤ m → m < 11 → τ.2.1 20 (11 * e + m) = 0 ∨ τ.2.1 20 (11 * e + m) = 23
def cK (τ : am_S) (e k : Nat) : Prop := τ.2.1 20 (11 * e + k) = 0 ∨ cfB (τ.2.1 20 (11 * e + k)) = true
def c4 (τ : am_S) (N e u : Nat) : Prop := τ.2.1 20 (11 * e + 4) = 0 ∨ (τ.2.1 20 (11 * e + 4) = 19 ∧ ¬ fp (orP τ u (τ.2.2 21 (11 * e + 4))) N 0 = none)
def c3 (τ : am_S) (e : Nat) : Prop := τ.2.1 20 (11 * e + 3) = 0 ∨ τ.2.1 20 (11 * e + 3) = 23 ∨ τ.2.1 20 (11 * e + 3) = 35
def cA (τ : am_S) (A Z : Nat → Nat) (e g k : Nat) : Prop := ¬ adS (τ.2.1 2) A Z (τ.2.1 20 (11 * e + k)) (τ.2.2 21 (11 * e + k)) (bas τ g 9) = none
def c2 (τ : am_S) (A Z : Nat → Nat) (e g : Nat) : Prop := τ.2.1 20 (11 * e + 2) = 0 ∨ cfB (τ.2.1 20 (11 * e + 2)) = true ∨ cA τ A Z e g 2
def c1 (τ : am_S) (A Z : Nat → Nat) (e g : Nat) : Prop := τ.2.1 20 (11 * e + 1) = 0 ∨ cA τ A Z e g 1
def c0 (τ : am_S) (A Z : Nat → Nat) (e g : Nat) : Prop := τ.2.1 20 (11 * e + 0) = 0 ∨ ¬ nmS (τ.2.1 2) A Z (τ.2.1 20 (11 * e + 0)) (τ.2.2 21 (11 * e + 0)) (bas τ g 8) = none
def cAll (τ : am_S) (A Z : Nat → Nat) (N e u g : Nat) : Prop := c0 τ A Z e g ∧ c1 τ A Z e g ∧ c2 τ A Z e g ∧ c3 τ e ∧ c4 τ N e u ∧ cK τ e 5 ∧ cK τ e 6 ∧ cU τ e
theorem ri_U {e : Nat} {τ : am_S} (he : e < 200) (hZ : τ.2.1 17 e = 17 → ∀ m, 7 ≤ m → m < 11 → FZ (τ.2.1 20 (11 * e + m))) : ∀ j k, k + j = 11 → 7 ≤ k → ∀ (y : Int32), y = 0 ∨ y = 1 → ∀ n, j < n → R1 (g_Mo_isRight_241 n (nI e) y (nI k) τ) (fun y' t => t = τ ∧ ((y' = 1 ∧ y = 1 ∧ (τ.2.1 17 e = 17 → ∀ m, k ≤ m → m < 11 → τ.2.1 20 (11 * e + m) = 0 ∨ τ.2.1 20 (11 * e + m) = 23)) ∨ (y' = 0 ∧ ¬ (y = 1 ∧ (τ.2.1 17 e = 17 → ∀ m, k ≤ m → m < 11 → τ.2.1 20 (11 * e + m) = 0 ∨ τ.2.1 20 (11 * e + m) = 23))))) := by
  intro j
  induction j with
  | zero =>
    intro k hk h7 y hy n hn
    obtain ⟨n, rfl⟩ : ∃ z, n = z + 1 := ⟨n - 1, by omega⟩
    unfold g_Mo_isRight_241 g_Mo_isRight_294
    rw [if_neg (show ¬ nI k < 11 from nI_nlt (b := 11) (by omega) (by omega))]
    rcases hy with rfl | rfl
    · exact R1_p ⟨rfl, Or.inr ⟨rfl, fun z => absurd z.1 (by decide)⟩⟩
    · exact R1_p ⟨rfl, Or.inl ⟨rfl, rfl, fun _ m h1 h2 => by omega⟩⟩
  | succ j ih =>
    intro k hk h7 y hy n hn
    obtain ⟨n, rfl⟩ : ∃ z, n = z + 1 := ⟨n - 1, by omega⟩
    unfold g_Mo_isRight_241 g_Mo_isRight_294 g_Mo_isRight_286 g_Mo_isRight_282 g_Mo_isRight_287
    rw [if_pos (show nI k < 11 from nI_lt (b := 11) (by omega) (by omega)), inb_nI he (by decide), gd_t, nI_clamp (by omega), show nI k + 1 = nI (k + 1) from nI_add k 1]
    by_cases c17 : τ.2.1 17 e = 17
    · rw [if_pos c17]
      rcases hy with rfl | rfl
      · rw [if_pos rfl]
        refine R1_m (ih (k + 1) (by omega) (by omega) 0 (Or.inl rfl) n (by omega)) (fun y' t _ q => ⟨q.1, ?_⟩)
        rcases q.2 with q | q
        · exact absurd q.2.1 (by decide)
        · exact Or.inr ⟨q.1, fun z => absurd z.1 (by decide)⟩
      · rw [if_neg i10, ha_m he (by omega) (hZ c17 k h7 (by omega)), bd_t]
        have step : ∀ z : Prop, (z ↔ (τ.2.1 20 (11 * e + k) = 0 ∨ τ.2.1 20 (11 * e + k) = 23)) → z → R1 (g_Mo_isRight_241 n (nI e) 1 (nI (k + 1)) τ) (fun y' t => t = τ ∧ ((y' = 1 ∧ (1 : Int32) = 1 ∧ (τ.2.1 17 e = 17 → ∀ m, k ≤ m → m < 11 → τ.2.1 20 (11 * e + m) = 0 ∨ τ.2.1 20 (11 * e + m) = 23)) ∨ (y' = 0 ∧ ¬ ((1 : Int32) = 1 ∧ (τ.2.1 17 e = 17 → ∀ m, k ≤ m → m < 11 → τ.2.1 20 (11 * e + m) = 0 ∨ τ.2.1 20 (11 * e + m) = 23))))) := fun z hz1 hz => by
          refine R1_m (ih (k + 1) (by omega) (by omega) 1 (Or.inr rfl) n (by omega)) (fun y' t _ q => ⟨q.1, ?_⟩)
          have hx : (τ.2.1 17 e = 17 → ∀ m, k ≤ m → m < 11 → τ.2.1 20 (11 * e + m) = 0 ∨ τ.2.1 20 (11 * e + m) = 23) ↔ (τ.2.1 17 e = 17 → ∀ m, k + 1 ≤ m → m < 11 → τ.2.1 20 (11 * e + m) = 0 ∨ τ.2.1 20 (11 * e + m) = 23) := ⟨fun a b m h1 h2 => a b m (by omega) h2, fun a b m h1 h2 => by
            by_cases cm : m = k
            · rw [cm]; exact hz1.mp hz
            · exact a b m (by omega) h2⟩
          rw [hx]
          exact q.2
        by_cases c0 : τ.2.1 20 (11 * e + k) = 0
        · rw [if_pos c0, if_pos rfl]
          exact step _ Iff.rfl (Or.inl c0)
        · rw [if_neg c0, if_neg i10, fo_m he (by omega), bd_t]
          by_cases c23 : τ.2.1 20 (11 * e + k) = 23
          · rw [if_pos c23]
            exact step _ Iff.rfl (Or.inr c23)
          · rw [if_neg c23]
            refine R1_m (ih (k + 1) (by omega) (by omega) 0 (Or.inl rfl) n (by omega)) (fun y' t _ q => ⟨q.1, ?_⟩)
            rcases q.2 with q | q
            · exact absurd q.2.1 (by decide)
            · exact Or.inr ⟨q.1, fun z => (z.2 c17 k (Nat.le_refl _) (by omega)).elim c0 c23⟩
    · rw [if_neg c17]
      rcases hy with rfl | rfl
      · exact R1_p ⟨rfl, Or.inr ⟨rfl, fun z => absurd z.1 (by decide)⟩⟩
      · exact R1_p ⟨rfl, Or.inl ⟨rfl, rfl, fun z => absurd z c17⟩⟩
/-- what every stage knows -/
def RI (σ τ0 : am_S) (N U : Nat) (fs A Z : Nat → Nat) (e u : Nat) : Prop := EV σ τ0 N U fs A Z ∧ e < N ∧ u < U ∧ τ0.2.1 19 e = nI u ∧ (∀ k, k < 7 → FZ (τ0.2.1 20 (11 * e + k))) ∧ (τ0.2.1 17 e = 17 → ∀ m, 7 ≤ m → m < 11 → FZ (τ0.2.1 20 (11 * e + m))) ∧ (τ0.2.1 20 (11 * e + 0) = 8 → ∃ b, τ0.2.2 21 (11 * e + 0) = lN b ∧ TX (τ0.2.1 2) b)
theorem RI_fr {σ τ0 τ : am_S} {N U e u : Nat} {fs A Z : Nat → Nat} (h : RI σ τ0 N U fs A Z e u) (g : FR [(0, 37)] [] τ0 τ) : RI σ τ N U fs A Z e u := by
  obtain ⟨h1, h2, h3, h4, h5, h6, h7⟩ := h
  refine ⟨EV_fr h1 (fr_rf (W := []) (A := [])) g (by decide) (by decide), h2, h3, ?_⟩
  rw [fr_b g (by decide), fr_b g (by decide), fr_b g (by decide), fr_c g (by decide), fr_b g (by decide)]
  exact ⟨h4, h5, h6, h7⟩
theorem ri_no {σ τ0 τ : am_S} {N U e u : Nat} {fs A Z : Nat → Nat} (h : RI σ τ0 N U fs A Z e u) (g : FR [(0, 37)] [] τ0 τ) {C : Prop} (hC : ¬ C) : R1 (g_Mo_isRight_236 (nI e) τ) (PQ C τ0) := by
  have h' := RI_fr h g
  have hl := EV_l h'.1
  unfold g_Mo_isRight_236 g_Mo_isRight_237
  refine R1_m (ri_U (by have := h'.2.1; omega) h'.2.2.2.2.2.1 4 7 rfl (by omega) 0 (Or.inl rfl) 4000 (by omega)) (fun y t _ q => ?_)
  obtain ⟨rfl, q⟩ := q
  rcases q with q | q
  · exact absurd q.2.1 (by decide)
  · exact ⟨g, Or.inr ⟨q.1, hC⟩⟩
theorem ri_u {σ τ0 τ : am_S} {N U e u : Nat} {fs A Z : Nat → Nat} (h : RI σ τ0 N U fs A Z e u) (g : FR [(0, 37)] [] τ0 τ) : R1 (g_Mo_isRight_232 (nI e) τ) (PQ (cU τ0 e) τ0) := by
  have h' := RI_fr h g
  have hl := EV_l h'.1
  unfold g_Mo_isRight_232 g_Mo_isRight_237
  refine R1_m (ri_U (by have := h'.2.1; omega) h'.2.2.2.2.2.1 4 7 rfl (by omega) 1 (Or.inr rfl) 4000 (by omega)) (fun y t _ q => ?_)
  obtain ⟨rfl, q⟩ := q
  have hx : cU τ0 e ↔ (t.2.1 17 e = 17 → ∀ m, 7 ≤ m → m < 11 → t.2.1 20 (11 * e + m) = 0 ∨ t.2.1 20 (11 * e + m) = 23) := by
    rw [fr_b g (by decide), fr_b g (by decide)]
    exact Iff.rfl
  unfold PQ
  rw [hx]
  rcases q with q | q
  · exact ⟨g, Or.inl ⟨q.1, q.2.2⟩⟩
  · exact ⟨g, Or.inr ⟨q.1, fun z => q.2 ⟨rfl, z⟩⟩⟩
theorem PQ_and {C D : Prop} {x : Option (Int32 × am_S)} {τ0 : am_S} (hC : C) (h : R1 x (PQ D τ0)) : R1 x (PQ (C ∧ D) τ0) := R1_m h (fun y t _ q => ⟨q.1, q.2.imp (fun z => ⟨z.1, hC, z.2⟩) (fun z => ⟨z.1, fun w => z.2 w.2⟩)⟩)
theorem ri_6 {σ τ0 τ : am_S} {N U e u : Nat} {fs A Z : Nat → Nat} (h : RI σ τ0 N U fs A Z e u) (g : FR [(0, 37)] [] τ0 τ) : R1 (g_Mo_isRight_209 (nI e) τ) (PQ (cK τ0 e 6 ∧ cU τ0 e) τ0) := by
  have h' := RI_fr h g
  have hl := EV_l h'.1
  have he : e < 200 := by have := h'.2.1; omega
  have e20 : τ.2.1 20 = τ0.2.1 20 := fr_b g (by decide)
  unfold g_Mo_isRight_209
  rw [show g_Mo_has (nI e) 6 τ = _ from ha_m (k := 6) he (by decide) (h'.2.2.2.2.1 6 (by decide)), bd_t, e20]
  by_cases c : τ0.2.1 20 (11 * e + 6) = 0
  · rw [if_pos c, if_pos rfl]
    exact PQ_and (Or.inl c) (ri_u h g)
  · rw [if_neg c, if_neg i10, show g_Mo_formAt (nI e) 6 τ = _ from fo_m (k := 6) he (by decide), bd_t, e20]
    refine R1_b ic_m (fun v t _ k => ?_)
    obtain ⟨rfl, k⟩ := k
    rcases k with ⟨rfl, k⟩ | ⟨rfl, k⟩
    · rw [if_neg i10]
      exact PQ_and (Or.inr k) (ri_u h g)
    · rw [if_pos rfl]
      exact ri_no h g (fun z => z.1.elim c k)
theorem ri_5 {σ τ0 τ : am_S} {N U e u : Nat} {fs A Z : Nat → Nat} (h : RI σ τ0 N U fs A Z e u) (g : FR [(0, 37)] [] τ0 τ) : R1 (g_Mo_isRight_183 (nI e) 1 τ) (PQ (cK τ0 e 5 ∧ cK τ0 e 6 ∧ cU τ0 e) τ0) := by
  have h' := RI_fr h g
  have hl := EV_l h'.1
  have he : e < 200 := by have := h'.2.1; omega
  have e20 : τ.2.1 20 = τ0.2.1 20 := fr_b g (by decide)
  unfold g_Mo_isRight_183
  rw [if_neg i10, show g_Mo_has (nI e) 5 τ = _ from ha_m (k := 5) he (by decide) (h'.2.2.2.2.1 5 (by decide)), bd_t, e20]
  by_cases c : τ0.2.1 20 (11 * e + 5) = 0
  · rw [if_pos c, if_pos rfl]
    exact PQ_and (Or.inl c) (ri_6 h g)
  · rw [if_neg c, if_neg i10, show g_Mo_formAt (nI e) 5 τ = _ from fo_m (k := 5) he (by decide), bd_t, e20]
    refine R1_b ic_m (fun v t _ k => ?_)
    obtain ⟨rfl, k⟩ := k
    rcases k with ⟨rfl, k⟩ | ⟨rfl, k⟩
    · rw [if_neg i10]
      exact PQ_and (Or.inr k) (ri_6 h g)
    · rw [if_pos rfl]
      exact ri_no h g (fun z => z.1.elim c k)
theorem ri_4 {σ τ0 τ : am_S} {N U e u : Nat} {fs A Z : Nat → Nat} (h : RI σ τ0 N U fs A Z e u) (g : FR [(0, 37)] [] τ0 τ) : R1 (g_Mo_isRight_156 (nI e) 1 τ) (PQ (c4 τ0 N e u ∧ cK τ0 e 5 ∧ cK τ0 e 6 ∧ cU τ0 e) τ0) := by
  have h' := RI_fr h g
  have hl := EV_l h'.1
  have he : e < 200 := by have := h'.2.1; omega
  have e20 : τ.2.1 20 = τ0.2.1 20 := fr_b g (by decide)
  unfold g_Mo_isRight_156 g_Mo_isRight_178 g_Mo_isRight_182 g_Mo_isOrigin g_Mo_isOrigin_14
  rw [if_neg i10, show g_Mo_has (nI e) 4 τ = _ from ha_m (k := 4) he (by decide) (h'.2.2.2.2.1 4 (by decide)), bd_t, e20]
  by_cases c : τ0.2.1 20 (11 * e + 4) = 0
  · rw [if_pos c, if_pos rfl]
    exact PQ_and (Or.inl c) (ri_5 h g)
  · rw [if_neg c, if_neg i10, or_m h'.1 h'.2.1 h'.2.2.1 h'.2.2.2.1, bd_t, e20]
    have eo : orP τ u (τ.2.2 21 (11 * e + 4)) = orP τ0 u (τ0.2.2 21 (11 * e + 4)) := by
      unfold orP
      rw [fr_b g (k := 19) (by decide), fr_b g (k := 17) (by decide), fr_b g (k := 16) (by decide), fr_b g (k := 13) (by decide), fr_c g (k := 21) (by decide)]
    rw [eo]
    have no : ¬ c4 τ0 N e u → R1 (g_Mo_isRight_183 (nI e) 0 τ) (PQ (c4 τ0 N e u ∧ cK τ0 e 5 ∧ cK τ0 e 6 ∧ cU τ0 e) τ0) := fun hc => by
      unfold g_Mo_isRight_183
      rw [if_pos rfl]
      exact ri_no h g (fun z => hc z.1)
    by_cases c19 : τ0.2.1 20 (11 * e + 4) = 19
    · rw [if_pos c19]
      cases hf : fp (orP τ0 u (τ0.2.2 21 (11 * e + 4))) N 0 with
      | some k =>
        have := fp_lt hf
        rw [oN_s, if_neg (nI_ne (by omega)), show z01 1 = true from by decide, gd_t, bd_t, if_neg i10]
        exact PQ_and (Or.inr ⟨c19, by rw [hf]; exact fun z => by cases z⟩) (ri_5 h g)
      | none =>
        rw [show oN none = -1 from rfl, if_pos rfl, show z01 0 = true from by decide, gd_t, bd_t, if_pos rfl]
        exact no (fun z => z.elim c (fun w => w.2 hf))
    · rw [if_neg c19, show oN none = -1 from rfl, if_pos rfl, show z01 0 = true from by decide, gd_t, bd_t, if_pos rfl]
      exact no (fun z => z.elim c (fun w => c19 w.1))
theorem ri_3 {σ τ0 τ : am_S} {N U e u : Nat} {fs A Z : Nat → Nat} (h : RI σ τ0 N U fs A Z e u) (g : FR [(0, 37)] [] τ0 τ) : R1 (g_Mo_isRight_115 (nI e) 1 τ) (PQ (c3 τ0 e ∧ c4 τ0 N e u ∧ cK τ0 e 5 ∧ cK τ0 e 6 ∧ cU τ0 e) τ0) := by
  have h' := RI_fr h g
  have hl := EV_l h'.1
  have he : e < 200 := by have := h'.2.1; omega
  have e20 : τ.2.1 20 = τ0.2.1 20 := fr_b g (by decide)
  unfold g_Mo_isRight_115 g_Mo_isRight_151 g_Mo_isRight_155
  rw [if_neg i10, show g_Mo_has (nI e) 3 τ = _ from ha_m (k := 3) he (by decide) (h'.2.2.2.2.1 3 (by decide)), bd_t, e20]
  by_cases c : τ0.2.1 20 (11 * e + 3) = 0
  · rw [if_pos c, if_pos rfl]
    exact PQ_and (Or.inl c) (ri_4 h g)
  · rw [if_neg c, if_neg i10, show g_Mo_formAt (nI e) 3 τ = _ from fo_m (k := 3) he (by decide), bd_t, e20]
    by_cases c23 : τ0.2.1 20 (11 * e + 3) = 23
    · rw [if_pos c23]
      exact PQ_and (Or.inr (Or.inl c23)) (ri_4 h g)
    · rw [if_neg c23, show g_Mo_formAt (nI e) 3 τ = _ from fo_m (k := 3) he (by decide), bd_t, e20]
      by_cases c35 : τ0.2.1 20 (11 * e + 3) = 35
      · rw [if_pos c35]
        exact PQ_and (Or.inr (Or.inr c35)) (ri_4 h g)
      · rw [if_neg c35]
        unfold g_Mo_isRight_156 g_Mo_isRight_182 g_Mo_isRight_183
        rw [if_pos rfl, if_pos rfl]
        exact ri_no h g (fun z => z.1.elim c (fun w => w.elim c23 c35))
theorem n63 {σ τ0 τ : am_S} {N U e u : Nat} {fs A Z : Nat → Nat} (h : RI σ τ0 N U fs A Z e u) (g : FR [(0, 37)] [] τ0 τ) {C : Prop} (hC : ¬ C) : R1 (g_Mo_isRight_114 (nI e) τ) (PQ C τ0) := by
  unfold g_Mo_isRight_114 g_Mo_isRight_115 g_Mo_isRight_155 g_Mo_isRight_156 g_Mo_isRight_182 g_Mo_isRight_183
  rw [if_pos rfl, if_pos rfl, if_pos rfl]
  exact ri_no h g hC
theorem cA_fr {τ0 τ : am_S} {A Z : Nat → Nat} {e f k : Nat} (g : FR [(0, 37)] [] τ0 τ) : adS (τ.2.1 2) A Z (τ.2.1 20 (11 * e + k)) (τ.2.2 21 (11 * e + k)) (bas τ f 9) = adS (τ0.2.1 2) A Z (τ0.2.1 20 (11 * e + k)) (τ0.2.2 21 (11 * e + k)) (bas τ0 f 9) := by
  rw [fr_b g (k := 2) (by decide), fr_b g (k := 20) (by decide), fr_c g (k := 21) (by decide), bas_fr g (by decide) (by decide)]
theorem ri_2 {σ τ0 τ : am_S} {N U e u : Nat} {fs A Z : Nat → Nat} (h : RI σ τ0 N U fs A Z e u) (g : FR [(0, 37)] [] τ0 τ) : R1 (g_Mo_isRight_63 (nI e) 1 τ) (PQ (c2 τ0 A Z e (fs u) ∧ c3 τ0 e ∧ c4 τ0 N e u ∧ cK τ0 e 5 ∧ cK τ0 e 6 ∧ cU τ0 e) τ0) := by
  have h' := RI_fr h g
  have hl := EV_l h'.1
  have he : e < 200 := by have := h'.2.1; omega
  have e20 : τ.2.1 20 = τ0.2.1 20 := fr_b g (by decide)
  unfold g_Mo_isRight_63 g_Mo_isRight_110
  rw [if_neg i10, show g_Mo_has (nI e) 2 τ = _ from ha_m (k := 2) he (by decide) (h'.2.2.2.2.1 2 (by decide)), bd_t, e20]
  by_cases c : τ0.2.1 20 (11 * e + 2) = 0
  · rw [if_pos c, if_pos rfl]
    exact PQ_and (Or.inl c) (ri_3 h g)
  · rw [if_neg c, if_neg i10, show g_Mo_formAt (nI e) 2 τ = _ from fo_m (k := 2) he (by decide), bd_t, e20]
    refine R1_b ic_m (fun v t _ k => ?_)
    obtain ⟨rfl, k⟩ := k
    rcases k with ⟨rfl, k⟩ | ⟨rfl, k⟩
    · rw [if_neg i10]
      exact PQ_and (Or.inr (Or.inl k)) (ri_3 h g)
    · rw [if_pos rfl, show g_Mo_formAt (nI e) 2 t = _ from fo_m (k := 2) he (by decide), bd_t, e20]
      refine R1_b ia_m (fun v2 t2 _ k2 => ?_)
      obtain ⟨rfl, k2⟩ := k2
      rcases k2 with ⟨rfl, k2⟩ | ⟨rfl, k2⟩
      · rw [if_neg i10]
        refine R1_b (ad_m (k := 2) h'.1 h'.2.1 h'.2.2.1 h'.2.2.2.1 (by decide) (by rw [e20]; exact k2)) (fun y3 t3 _ k3 => ?_)
        have g3 := fr_tr g k3.1
        rw [cA_fr g] at k3
        cases hA : adS (τ0.2.1 2) A Z (τ0.2.1 20 (11 * e + 2)) (τ0.2.2 21 (11 * e + 2)) (bas τ0 (fs u) 9) with
        | some x =>
          rw [hA] at k3
          rw [k3.2.1, if_neg i10]
          exact PQ_and (Or.inr (Or.inr (by unfold cA; rw [hA]; exact fun z => by cases z))) (ri_3 h g3)
        | none =>
          rw [hA] at k3
          have : y3 = 0 := k3.2
          rw [this, if_pos rfl]
          exact n63 h g3 (fun z => z.1.elim c (fun w => w.elim k (fun v => v hA)))
      · rw [if_pos rfl]
        exact n63 h g (fun z => z.1.elim c (fun w => w.elim k (fun v => v (adS_no k2))))
theorem ri_1 {σ τ0 τ : am_S} {N U e u : Nat} {fs A Z : Nat → Nat} (h : RI σ τ0 N U fs A Z e u) (g : FR [(0, 37)] [] τ0 τ) : R1 (g_Mo_isRight_23 (nI e) 1 τ) (PQ (c1 τ0 A Z e (fs u) ∧ c2 τ0 A Z e (fs u) ∧ c3 τ0 e ∧ c4 τ0 N e u ∧ cK τ0 e 5 ∧ cK τ0 e 6 ∧ cU τ0 e) τ0) := by
  have h' := RI_fr h g
  have hl := EV_l h'.1
  have he : e < 200 := by have := h'.2.1; omega
  have e20 : τ.2.1 20 = τ0.2.1 20 := fr_b g (by decide)
  have no : ∀ t, FR [(0, 37)] [] τ0 t → ¬ c1 τ0 A Z e (fs u) → R1 (g_Mo_isRight_62 (nI e) t) (PQ (c1 τ0 A Z e (fs u) ∧ c2 τ0 A Z e (fs u) ∧ c3 τ0 e ∧ c4 τ0 N e u ∧ cK τ0 e 5 ∧ cK τ0 e 6 ∧ cU τ0 e) τ0) := fun t gt hc => by
    unfold g_Mo_isRight_62 g_Mo_isRight_63
    rw [if_pos rfl]
    exact n63 h gt (fun z => hc z.1)
  unfold g_Mo_isRight_23 g_Mo_isRight_58
  rw [if_neg i10, show g_Mo_has (nI e) 1 τ = _ from ha_m (k := 1) he (by decide) (h'.2.2.2.2.1 1 (by decide)), bd_t, e20]
  by_cases c : τ0.2.1 20 (11 * e + 1) = 0
  · rw [if_pos c, if_pos rfl]
    exact PQ_and (Or.inl c) (ri_2 h g)
  · rw [if_neg c, if_neg i10, show g_Mo_formAt (nI e) 1 τ = _ from fo_m (k := 1) he (by decide), bd_t, e20]
    refine R1_b ia_m (fun v2 t2 _ k2 => ?_)
    obtain ⟨rfl, k2⟩ := k2
    rcases k2 with ⟨rfl, k2⟩ | ⟨rfl, k2⟩
    · rw [if_neg i10]
      refine R1_b (ad_m (k := 1) h'.1 h'.2.1 h'.2.2.1 h'.2.2.2.1 (by decide) (by rw [e20]; exact k2)) (fun y3 t3 _ k3 => ?_)
      have g3 := fr_tr g k3.1
      rw [cA_fr g] at k3
      cases hA : adS (τ0.2.1 2) A Z (τ0.2.1 20 (11 * e + 1)) (τ0.2.2 21 (11 * e + 1)) (bas τ0 (fs u) 9) with
      | some x =>
        rw [hA] at k3
        rw [k3.2.1, if_neg i10]
        exact PQ_and (Or.inr (by unfold cA; rw [hA]; exact fun z => by cases z)) (ri_2 h g3)
      | none =>
        rw [hA] at k3
        have : y3 = 0 := k3.2
        rw [this, if_pos rfl]
        exact no t3 g3 (fun z => z.elim c (fun v => v hA))
    · rw [if_pos rfl]
      exact no t2 g (fun z => z.elim c (fun v => v (adS_no k2)))
theorem ri_0 {σ τ0 : am_S} {N U e u : Nat} {fs A Z : Nat → Nat} (h : RI σ τ0 N U fs A Z e u) : R1 (g_Mo_isRight (nI e) τ0) (PQ (cAll τ0 A Z N e u (fs u)) τ0) := by
  have hl := EV_l h.1
  have he : e < 200 := by have := h.2.1; omega
  unfold g_Mo_isRight g_Mo_isRight_18
  rw [show g_Mo_has (nI e) 0 τ0 = _ from ha_m (k := 0) he (by decide) (h.2.2.2.2.1 0 (by decide)), bd_t]
  by_cases c : τ0.2.1 20 (11 * e + 0) = 0
  · rw [if_pos c, if_pos rfl]
    exact PQ_and (Or.inl c) (ri_1 h fr_rf)
  · rw [if_neg c, if_neg i10, nm_m' h.1 h.2.1 h.2.2.1 h.2.2.2.1 h.2.2.2.2.2.2, bd_t]
    cases hN : nmS (τ0.2.1 2) A Z (τ0.2.1 20 (11 * e + 0)) (τ0.2.2 21 (11 * e + 0)) (bas τ0 (fs u) 8) with
    | some p =>
      have hp : ¬ nI p = -1 := by
        obtain ⟨q, q1, q2, _⟩ := nmS_tx (fun s hs => (EV_xm h.1 s hs).2.2) h.2.2.2.2.2.2 hN
        exact nI_ne (by omega)
      rw [oN_s, if_neg hp]
      exact PQ_and (Or.inr (by rw [hN]; exact fun z => by cases z)) (ri_1 h fr_rf)
    | none =>
      rw [show oN none = -1 from rfl, if_pos rfl]
      unfold g_Mo_isRight_23 g_Mo_isRight_62 g_Mo_isRight_63
      rw [if_pos rfl, if_pos rfl]
      exact n63 h fr_rf (fun z => z.1.elim c (fun v => v hN))
