/-! choosing the sections, both sides -/
theorem R2_1 {α β : Type} {x : Option (α × am_S)} {m : Option (β × am_S)} {P : α → am_S → β → am_S → Prop} (h : R1 x (fun a s => R1 m (fun b t => P a s b t))) : R2 x m P := by
  obtain ⟨a, s, e, b, t, f, p⟩ := h
  exact ⟨a, s, b, t, e, f, p⟩
theorem R2_2 {α β : Type} {x : Option (α × am_S)} {m : Option (β × am_S)} {P : α → am_S → β → am_S → Prop} (h : R1 m (fun b t => R1 x (fun a s => P a s b t))) : R2 x m P := by
  obtain ⟨b, t, f, a, s, e, p⟩ := h
  exact ⟨a, s, b, t, e, f, p⟩
theorem R1_1 {α β : Type} {x : Option (α × am_S)} {m : Option (β × am_S)} {P : α → am_S → β → am_S → Prop} (h : R2 x m P) : R1 x (fun a s => R1 m (fun b t => P a s b t)) := by
  obtain ⟨a, s, b, t, e, f, p⟩ := h
  exact ⟨a, s, e, b, t, f, p⟩
theorem R1_2 {α β : Type} {x : Option (α × am_S)} {m : Option (β × am_S)} {P : α → am_S → β → am_S → Prop} (h : R2 x m P) : R1 m (fun b t => R1 x (fun a s => P a s b t)) := by
  obtain ⟨a, s, b, t, e, f, p⟩ := h
  exact ⟨b, t, f, a, s, e, p⟩
/-- the sections that are looked at -/
def SR (σ τ : am_S) : Prop := ∀ k, k < 10 → σ.2.1 8 k = τ.2.1 5 k ∧ ∃ a z, σ.2.1 6 k = nI a ∧ σ.2.1 7 k = nI (a + z) ∧ τ.2.1 3 k = nI a ∧ τ.2.1 4 k = nI z ∧ a + z ≤ 3000
theorem ch_l {B : Nat → Int32} {p f e i len : Nat} (hl : len ≤ 3000) (hp : p + 64 ≤ len) (hfe : f ≤ e) (he : e ≤ 3000) (hz : ∀ a, f ≤ a → a < e → ¬ B a = 0) (hL : LIE B len p) (hi : i < 24) : ∀ j k, k + j = 10 → ∀ (σ τ : am_S) (n n' : Nat), j < n → j < n' → SR σ τ → σ.2.1 1 = B → τ.2.1 2 = B → SPE τ → σ.2.1 3 i = nI (sF B p) → σ.2.1 4 i = nI (sF B p + sZ B p) → R2 (g_Se_choose_3 n (nI i) (nI f) (nI e) (nI k) σ) (g_Mo_names_39 n' (nI p) (nI f) (nI e) (nI k) τ) (fun _ s b t => b = 1 ∧ SR s t) := by
  intro j
  induction j with
  | zero =>
    intro k hk σ τ n n' hn hn' hS hb1 hb2 hs h3 h4
    obtain ⟨n, rfl⟩ : ∃ z, n = z + 1 := ⟨n - 1, by omega⟩
    obtain ⟨n', rfl⟩ : ∃ z, n' = z + 1 := ⟨n' - 1, by omega⟩
    unfold g_Se_choose_3 g_Mo_names_39 g_Mo_names_165 g_Mo_names_176
    rw [if_neg (show ¬ nI k < 10 from nI_nlt (b := 10) (by omega) (by omega)), if_neg (show ¬ nI k < 10 from nI_nlt (b := 10) (by omega) (by omega)), if_neg (nI_ne (by omega))]
    exact R2_p ⟨rfl, hS⟩
  | succ j ih =>
    intro k hk σ τ n n' hn hn' hS hb1 hb2 hs h3 h4
    obtain ⟨n, rfl⟩ : ∃ z, n = z + 1 := ⟨n - 1, by omega⟩
    obtain ⟨n', rfl⟩ : ∃ z, n' = z + 1 := ⟨n' - 1, by omega⟩
    unfold g_Se_choose_3 g_Mo_names_39 g_Se_choose_68 g_Mo_names_159
    rw [if_pos (show nI k < 10 from nI_lt (b := 10) (by omega) (by omega)), if_pos (show nI k < 10 from nI_lt (b := 10) (by omega) (by omega)), if_neg (nI_ne (n := e) (by omega)), inb_nI (by omega) (by decide), gd_t, gd_t, nI_clamp (by omega), (hS k (by omega)).1, tix_k k (by omega), show nI k + 1 = nI (k + 1) from nI_add k 1]
    by_cases c : τ.2.1 5 k = 0
    · rw [if_pos c, if_pos c]
      refine R2_l (ic_c (by omega) hfe he) (fun v s _ h => ?_)
      refine R2_r (nm_m (by omega) hfe he hs (by rw [hb2]; exact hz)) (fun w t _ h' => ?_)
      obtain ⟨rfl, h⟩ := h
      obtain ⟨rfl, h'⟩ := h'
      rw [hb1] at h
      rw [hb2] at h'
      rcases h with ⟨e1, h⟩ | ⟨e1, h⟩
      · rcases h' with ⟨e2, h'⟩ | ⟨e2, h'⟩
        · rw [e1, e2, if_neg (by decide), if_neg (by decide), gd_t, inb_nI hi (by decide), gd_t, gd_t, gd_t, gd_t]
          unfold g_Mo_names_95 g_Mo_names_131 g_Mo_names_158 g_Mo_names_159
          rw [show nI p + 24 = nI (p + 24) from nI_add p 24, show nI p + 32 = nI (p + 32) from nI_add p 32, show nI p + 4 = nI (p + 4) from nI_add p 4]
          refine R2_r (pe_1 (p := p + 4) (m := 4) (by omega) (by omega)) (fun v3 t3 _ k3 => ?_)
          obtain ⟨w3, rfl⟩ := k3
          have n3 := num_lt B 4 (p + 4)
          have hc : lg_cmp v3 8 = 0 ↔ kN B p := by
            rw [cmp_eq, w3, hb2]
            exact lNe (c := 8) (by omega) (by omega)
          rw [nI_clamp (n := i) (by omega)]
          have done : ∀ (t : am_S), t.2.1 2 = B → t.2.2 = t3.2.2 → t.2.1 5 = (am_ai t3 5 k (vp_nar .boolean 1)).2.1 5 → (∀ m, m ≠ k → t.2.1 3 m = t3.2.1 3 m ∧ t.2.1 4 m = t3.2.1 4 m) → t.2.1 3 k = nI (sF B p) → t.2.1 4 k = nI (sZ B p) → R2 (g_Se_choose_3 n (nI i) (nI f) (nI e) (nI (k + 1)) (am_ai (am_ai (am_ai s 8 k (vp_nar .boolean 1)) 6 k ((am_ai s 8 k (vp_nar .boolean 1)).2.1 3 i)) 7 k ((am_ai (am_ai s 8 k (vp_nar .boolean 1)) 6 k ((am_ai s 8 k (vp_nar .boolean 1)).2.1 3 i)).2.1 4 i))) (g_Mo_names_39 n' (nI p) (nI f) (nI e) (nI k + 1) t) (fun _ s b t => b = 1 ∧ SR s t) := by
            intro t b2 bl b5 bo b3 b4
            rw [show nI k + 1 = nI (k + 1) from nI_add k 1]
            have hle := LIE_le hL
            refine ih (k + 1) (by omega) _ _ n n' (by omega) (by omega) ?_ ?_ b2 ?_ ?_ ?_
            · intro m hm
              by_cases z : m = k
              · subst z
                refine ⟨?_, sF B p, sZ B p, ?_, ?_, b3, b4, by omega⟩
                · rw [b5, ai_at, ai_no (Or.inl (by decide)), ai_no (Or.inl (by decide)), ai_at]
                · rw [ai_no (Or.inl (by decide)), ai_at, ai_no (Or.inl (by decide)), h3]
                · rw [ai_at, ai_no (Or.inl (by decide)), ai_no (Or.inl (by decide)), h4]
              · obtain ⟨q1, q2⟩ := hS m hm
                rw [b5, (bo m z).1, (bo m z).2, ai_no (Or.inr z), ai_no (Or.inr z), ai_no (Or.inr z), ai_no (Or.inr z), ai_no (Or.inr z), ai_no (Or.inr z), ai_no (Or.inr z), ai_no (Or.inr z), ai_no (Or.inr z), ai_no (Or.inr z)]
                exact ⟨q1, q2⟩
            · rw [ai_r (by decide), ai_r (by decide), ai_r (by decide), hb1]
            · show t.2.2 1 = _
              rw [bl]
              exact hs
            · rw [ai_r (by decide), ai_r (by decide), ai_r (by decide), h3]
            · rw [ai_r (by decide), ai_r (by decide), ai_r (by decide), h4]
          by_cases cK : kN B p
          · have f0 : sF B p = 0 := if_pos cK
            have z0 : sZ B p = 0 := if_pos cK
            rw [if_pos (hc.mpr cK), inb_nI (n := k) (by omega) (by decide), gd_t, gd_t, gd_t, if_neg (by decide), if_neg (by decide), nI_clamp (n := k) (by omega)]
            refine done _ ?_ ?_ ?_ ?_ ?_ ?_
            · rw [ai_r (by decide), ai_r (by decide), ai_r (by decide), hb2]
            · rfl
            · rw [ai_r (by decide), ai_r (by decide)]
            · intro m hm
              rw [ai_no (Or.inr hm), ai_no (Or.inr hm), ai_no (Or.inr hm), ai_no (Or.inr hm), ai_no (Or.inr hm), ai_no (Or.inr hm)]
              exact ⟨rfl, rfl⟩
            · rw [ai_no (Or.inl (by decide)), ai_at, f0]; rfl
            · rw [ai_at, z0]; rfl
          · have f0 : sF B p = num B (p + 24) 8 := if_neg cK
            have z0 : sZ B p = num B (p + 32) 8 := if_neg cK
            rw [if_neg (fun z => cK (hc.mp z)), inb_nI (n := k) (by omega) (by decide), gd_t, if_pos rfl, nI_clamp (n := k) (by omega)]
            refine R2_r (pe_1 (p := p + 24) (m := 8) (by omega) (by omega)) (fun v4 t4 _ k4 => ?_)
            obtain ⟨w4, rfl⟩ := k4
            rw [gd_t, if_pos rfl]
            refine R2_r (pe_1 (p := p + 32) (m := 8) (by omega) (by omega)) (fun v5 t5 _ k5 => ?_)
            obtain ⟨w5, rfl⟩ := k5
            rw [gd_t]
            have w4 : v4 = lN (num (t3.2.1 2) (p + 24) 8) := w4
            have w5 : v5 = lN (num (t3.2.1 2) (p + 32) 8) := w5
            rw [hb2] at w4 w5
            refine done _ ?_ ?_ ?_ ?_ ?_ ?_
            · rw [ai_r (by decide), ai_r (by decide), ai_r (by decide), hb2]
            · rfl
            · rw [ai_r (by decide), ai_r (by decide)]
            · intro m hm
              rw [ai_no (Or.inr hm), ai_no (Or.inr hm), ai_no (Or.inr hm), ai_no (Or.inr hm), ai_no (Or.inr hm), ai_no (Or.inr hm)]
              exact ⟨rfl, rfl⟩
            · rw [ai_no (Or.inl (by decide)), ai_at, f0, w4, lN_i]
            · rw [ai_at, z0, w5, lN_i]
        · exact absurd h h'
      · rcases h' with ⟨e2, h'⟩ | ⟨e2, h'⟩
        · exact absurd h' h
        · rw [e1, e2, if_pos rfl, if_pos rfl]
          exact ih (k + 1) (by omega) _ _ n n' (by omega) (by omega) hS hb1 hb2 hs h3 h4
    · rw [if_neg c, if_neg c]
      exact ih (k + 1) (by omega) _ _ n n' (by omega) (by omega) hS hb1 hb2 hs h3 h4
