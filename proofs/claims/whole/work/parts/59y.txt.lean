/-! texts and their characters, both sides -/
def TE (B : Nat → Int32) (x y : Int32) : Prop := (x = -1 ∧ y = -1) ∨ ∃ b e, x = nI b ∧ y = nI e ∧ b ≤ e ∧ e < 3000 ∧ B e = 0 ∧ ∀ m, b ≤ m → m < e → ¬ B m = 0
theorem TX_1 {B : Nat → Int32} : ∀ j b e, b + j = e → e < 3000 → B e = 0 → ∃ e', b ≤ e' ∧ e' ≤ e ∧ B e' = 0 ∧ ∀ m, b ≤ m → m < e' → ¬ B m = 0
  | 0, b, e, h, _, h0 => ⟨e, by omega, by omega, h0, fun m h1 h2 => by omega⟩
  | j + 1, b, e, h, h3, h0 => by
    by_cases c : B b = 0
    · exact ⟨b, by omega, by omega, c, fun m h1 h2 => by omega⟩
    · obtain ⟨e', q1, q2, q3, q4⟩ := TX_1 j (b + 1) e (by omega) h3 h0
      refine ⟨e', by omega, q2, q3, fun m h1 h2 => ?_⟩
      by_cases cm : m = b
      · rw [cm]; exact c
      · exact q4 m (by omega) h2
theorem txe_c {σ : am_S} {x : Int32} (h : PL (σ.2.1 1) x) : ∃ y, g_Fr_textEnd x σ = some (y, σ) ∧ TE (σ.2.1 1) x y := by
  rcases h with rfl | ⟨b, rfl, e, h1, h2, h3⟩
  · exact ⟨-1, rfl, Or.inl ⟨rfl, rfl⟩⟩
  · obtain ⟨e', q1, q2, q3, q4⟩ := TX_1 (e - b) b e (by omega) h2 h3
    refine ⟨nI e', ?_, Or.inr ⟨b, e', rfl, rfl, q1, by omega, q3, q4⟩⟩
    unfold g_Fr_textEnd
    rw [if_neg (nI_ne (by omega))]
    have key : ∀ j k, k + j = e' → b ≤ k → ∀ n, j < n → g_Fr_textEnd_9 n (nI k) σ = some (nI e', σ) := by
      intro j
      induction j with
      | zero =>
        intro k hk hb n hn
        obtain ⟨n, rfl⟩ : ∃ z, n = z + 1 := ⟨n - 1, by omega⟩
        have : k = e' := by omega
        subst this
        unfold g_Fr_textEnd_9 g_Fr_textEnd_31
        rw [if_pos (show nI k < 3000 from nI_lt (b := 3000) (by omega) (by omega)), inb_nI (by omega) (by decide), gd_t, nI_clamp (by omega), if_pos q3]
      | succ j ih =>
        intro k hk hb n hn
        obtain ⟨n, rfl⟩ : ∃ z, n = z + 1 := ⟨n - 1, by omega⟩
        unfold g_Fr_textEnd_9
        rw [if_pos (show nI k < 3000 from nI_lt (b := 3000) (by omega) (by omega)), inb_nI (by omega) (by decide), gd_t, nI_clamp (by omega), if_neg (q4 k hb (by omega)), show nI k + 1 = nI (k + 1) from nI_add k 1]
        exact ih (k + 1) (by omega) (by omega) n (by omega)
    exact key (e' - b) b (by omega) (Nat.le_refl _) 4000 (by omega)
theorem nI_subZ {a b : Nat} (h : b ≤ a) : nI a - nI b = nI (a - b) := by
  obtain ⟨c, rfl⟩ : ∃ c, a = c + b := ⟨a - b, by omega⟩
  rw [← nI_add, Int32.add_sub_cancel, Nat.add_sub_cancel]
theorem chr_2 {σ τ : am_S} {x y i : Int32} {B : Nat → Int32} (h : TE B x y) (hc : σ.2.1 1 = B) (hm : τ.2.1 2 = B) : ∃ v, g_F_character x y i σ = some (v, σ) ∧ g_Mo_character x i τ = some (v, τ) := by
  unfold g_F_character g_F_character_11 g_F_character_27 g_Mo_character g_Mo_character_9
  by_cases ci : i < 0
  · rw [if_pos ci, if_pos ci]
    exact ⟨-1, rfl, by simp only [ite_self]⟩
  · rw [if_neg ci, if_neg ci]
    rcases h with ⟨rfl, rfl⟩ | ⟨b, e, rfl, rfl, h1, h2, h3, h4⟩
    · rw [show (-1 : Int32) - -1 = 0 from by decide, if_neg ci, if_pos rfl]
      exact ⟨-1, rfl, rfl⟩
    · obtain ⟨m, hm31, rfl⟩ := nI_of ci
      rw [nI_subZ h1, if_neg (nI_ne (by omega))]
      have key : ∀ j a, a + j = e - b → a ≤ m → ∀ n, j + 1 < n → g_Mo_character_13 n (nI b) (nI m) (nI a) τ = some (if m < e - b then B (b + m) &&& 255 else -1, τ) := by
        intro j
        induction j with
        | zero =>
          intro a ha ham n hn
          obtain ⟨n, rfl⟩ : ∃ z, n = z + 1 := ⟨n - 1, by omega⟩
          unfold g_Mo_character_13
          rw [if_neg (nI_nlt (by omega) hm31), nI_add, inb_nI (show b + a < 3000 by omega) (by decide), gd_t, nI_clamp (by omega), hm, if_pos (by rw [show b + a = e by omega]; exact h3), if_neg (by omega)]
        | succ j ih =>
          intro a ha ham n hn
          obtain ⟨n, rfl⟩ : ∃ z, n = z + 2 := ⟨n - 2, by omega⟩
          rw [g_Mo_character_13, if_neg (nI_nlt (by omega) hm31), nI_add, inb_nI (show b + a < 3000 by omega) (by decide), gd_t, nI_clamp (by omega), hm, if_neg (h4 (b + a) (by omega) (by omega)), show nI a + 1 = nI (a + 1) from nI_add a 1]
          by_cases c : m = a
          · subst c
            unfold g_Mo_character_13
            rw [if_pos (nI_lt (by omega) (by omega)), nI_add, inb_nI (show b + m < 3000 by omega) (by decide), gd_t, nI_clamp (by omega), hm, if_pos (by omega)]
          · exact ih (a + 1) (by omega) (by omega) (n + 1) (by omega)
      rw [show g_Mo_character_13 4000 (nI b) (nI m) 0 τ = _ from key (e - b) 0 (by omega) (by omega) 4000 (by omega)]
      by_cases c : m < e - b
      · rw [if_pos (nI_lt c (by omega)), if_pos c, nI_add, inb_nI (show b + m < 3000 by omega) (by decide), gd_t, nI_clamp (by omega), hc]
        exact ⟨_, rfl, rfl⟩
      · rw [if_neg (nI_nlt (by omega) hm31), if_neg c]
        exact ⟨_, rfl, rfl⟩
/-! names of entries, both sides -/
theorem nm_1 {σ τ : am_S} {N U e : Nat} {fs A Z bnd wb : Nat → Nat} (h : OPN σ τ N U fs A Z bnd wb) (he : e < N) (hL : LK (σ.2.2 11 e)) (h0 : ¬ τ.2.1 20 (11 * e + 0) = 0) : ∃ p, σ.2.2 16 (7 * e + 0) = lN p ∧ g_Mo_nameAt (nI e) τ = some (nI p, τ) ∧ TX (σ.2.1 1) p := by
  have hE := OPN_ev h
  obtain ⟨u, hu, E⟩ := EV_en hE e he
  have hF := E.2.2.2.2.2.1.1 hL
  have hD := OPN_dn h e he u hu E.2.1 hL 0 (by decide) h0
  have hD' : oL (nmS (σ.2.1 1) A Z (τ.2.1 20 (11 * e + 0)) (τ.2.2 21 (11 * e + 0)) (bas τ (fs u) 8)) = some (σ.2.2 16 (7 * e + 0)) := hD
  have hb := EV_b hE
  have hn := nm_m' hE he hu E.2.1 (fun z => by rw [← hb]; exact (hF 0 (by decide)).2.2 z)
  rw [← hb] at hn
  cases hs : nmS (σ.2.1 1) A Z (τ.2.1 20 (11 * e + 0)) (τ.2.2 21 (11 * e + 0)) (bas τ (fs u) 8) with
  | none => rw [hs] at hD'; cases hD'
  | some p =>
    rw [hs] at hD' hn
    refine ⟨p, ?_, hn, nmS_tx (fun s hs => (EV_xc hE s hs).2.2) (hF 0 (by decide)).2.2 hs⟩
    have : some (lN p) = some (σ.2.2 16 (7 * e + 0)) := hD'
    exact (Option.some.inj this).symm
def FT (σ : am_S) (e : Nat) : Prop := σ.2.2 11 e = 46 ∨ σ.2.2 11 e = 29
theorem FT_L {σ : am_S} {e : Nat} (h : FT σ e) : LK (σ.2.2 11 e) := h.elim (fun z => Or.inr (Or.inl z)) (fun z => Or.inr (Or.inr (Or.inl z)))
theorem nmo_l {σ τ : am_S} {N U : Nat} {fs A Z bnd wb : Nat → Nat} (h : OPN σ τ N U fs A Z bnd wb) : ∀ j i, i + j = 8 → ∀ e, e < N → FT σ e → ∀ n n', j + 1 < n → j + 1 < n' → ∃ v, g_Fr_nameOf_4 n (nI e) (nI i) σ = some (v, σ) ∧ g_Mo_nameOf_28 n' (nI e) (nI i) τ = some (v, τ) ∧ PL (σ.2.1 1) v := by
  have hE := OPN_ev h
  have hl := EV_l hE
  intro j
  induction j with
  | zero =>
    intro i hi e he hT n n' hn hn'
    obtain ⟨n, rfl⟩ : ∃ z, n = z + 2 := ⟨n - 2, by omega⟩
    obtain ⟨n', rfl⟩ : ∃ z, n' = z + 1 := ⟨n' - 1, by omega⟩
    obtain ⟨u, hu, E⟩ := EV_en hE e he
    have hL := FT_L hT
    have hF := E.2.2.2.2.2.1.1 hL
    rw [g_Fr_nameOf_4, if_neg (show ¬ (8 : Int32) < nI i from nI_nlt (a := 8) (by omega) (by omega)), show g_En_has (nI e) 0 σ = _ from ha_c (k := 0) (by omega) (by decide), bd_t, (hF 0 (by decide)).1]
    unfold g_Mo_nameOf_28 g_Mo_nameOf_60 g_Mo_nameOf_82 g_Mo_nameOf_83
    rw [if_neg (show ¬ nI i < 8 from nI_nlt (b := 8) (by omega) (by omega)), if_neg (nI_ne (by omega)), show g_Mo_has (nI e) 0 τ = _ from ha_m (k := 0) (by omega) (by decide) (hF 0 (by decide)).2.1, bd_t]
    by_cases c0 : τ.2.1 20 (11 * e + 0) = 0
    · rw [if_pos c0, if_pos rfl, if_pos rfl, show g_En_has (nI e) 4 σ = _ from ha_c (k := 4) (by omega) (by decide), bd_t]
      refine ⟨-1, ?_, rfl, Or.inl rfl⟩
      by_cases c4 : σ.2.1 15 (7 * e + 4) = 0
      · rw [if_pos c4, if_pos rfl]
      · rw [if_neg c4, if_neg i10, show g_En_valueOf (nI e) 4 σ = _ from vo_c (k := 4) (by omega) (by decide), bd_t, g_Fr_nameOf_4, show nI i + 1 = nI (i + 1) from nI_add i 1, if_pos (show (8 : Int32) < nI (i + 1) from nI_lt (a := 8) (by omega) (by omega))]
    · obtain ⟨p, p1, p2, p3⟩ := nm_1 h he hL c0
      rw [if_neg c0, if_neg i10, if_neg i10, show g_En_valueOf (nI e) 0 σ = _ from vo_c (k := 0) (by omega) (by decide), bd_t, p1, lN_i, p2, bd_t]
      exact ⟨nI p, rfl, rfl, Or.inr ⟨p, rfl, p3⟩⟩
  | succ j ih =>
    intro i hi e he hT n n' hn hn'
    obtain ⟨n, rfl⟩ : ∃ z, n = z + 1 := ⟨n - 1, by omega⟩
    obtain ⟨n', rfl⟩ : ∃ z, n' = z + 2 := ⟨n' - 2, by omega⟩
    obtain ⟨u, hu, E⟩ := EV_en hE e he
    have hL := FT_L hT
    have hF := E.2.2.2.2.2.1.1 hL
    rw [g_Fr_nameOf_4, if_neg (show ¬ (8 : Int32) < nI i from nI_nlt (a := 8) (by omega) (by omega)), show g_En_has (nI e) 0 σ = _ from ha_c (k := 0) (by omega) (by decide), bd_t, (hF 0 (by decide)).1]
    rw [g_Mo_nameOf_28, if_pos (show nI i < 8 from nI_lt (b := 8) (by omega) (by omega)), if_neg (nI_ne (by omega)), show g_Mo_has (nI e) 0 τ = _ from ha_m (k := 0) (by omega) (by decide) (hF 0 (by decide)).2.1, bd_t]
    by_cases c0 : τ.2.1 20 (11 * e + 0) = 0
    · rw [if_pos c0, if_pos rfl, if_pos rfl, show g_En_has (nI e) 4 σ = _ from ha_c (k := 4) (by omega) (by decide), bd_t, (hF 4 (by decide)).1, or_m hE he hu E.2.1, bd_t, show nI i + 1 = nI (i + 1) from nI_add i 1]
      by_cases c4 : τ.2.1 20 (11 * e + 4) = 0
      · rw [if_pos c4, if_pos rfl, if_neg (by rw [c4]; decide)]
        refine ⟨-1, rfl, ?_, Or.inl rfl⟩
        show g_Mo_nameOf_28 (n' + 1) (-1) (nI (i + 1)) τ = _
        unfold g_Mo_nameOf_28 g_Mo_nameOf_60 g_Mo_nameOf_82 g_Mo_nameOf_83
        rw [if_pos rfl]
        simp only [ite_self, if_true]
      · have hD : (if τ.2.1 20 (11 * e + 4) = 19 then oL (fp (orP τ u (τ.2.2 21 (11 * e + 4))) N 0) else none) = some (σ.2.2 16 (7 * e + 4)) := OPN_dn h e he u hu E.2.1 hL 4 (by decide) c4
        rw [if_neg c4, if_neg i10, show g_En_valueOf (nI e) 4 σ = _ from vo_c (k := 4) (by omega) (by decide), bd_t]
        by_cases c19 : τ.2.1 20 (11 * e + 4) = 19
        · rw [if_pos c19] at hD ⊢
          cases hf : fp (orP τ u (τ.2.2 21 (11 * e + 4))) N 0 with
          | none => rw [hf] at hD; cases hD
          | some k =>
            rw [hf] at hD
            have hk : lN k = σ.2.2 16 (7 * e + 4) := Option.some.inj hD
            obtain ⟨_, k2, k3⟩ := fp_lt hf
            obtain ⟨u', hu', E'⟩ := EV_en hE k (by omega)
            rw [← hk, lN_i, oN_s]
            refine ih (i + 1) (by omega) k (by omega) ?_ n (n' + 1) (by omega) (by omega)
            unfold orP at k3
            rw [E'.2.2.1] at k3
            simp only [Bool.and_eq_true, Bool.or_eq_true, decide_eq_true_eq] at k3
            rcases k3.1.2 with q | q
            · exact Or.inl ((tg_eq (c := 46) (by omega) (by omega)).mp q)
            · exact Or.inr ((tg_eq (c := 29) (by omega) (by omega)).mp q)
        · rw [if_neg c19] at hD
          cases hD
    · obtain ⟨p, p1, p2, p3⟩ := nm_1 h he hL c0
      rw [if_neg c0, if_neg i10, if_neg i10, show g_En_valueOf (nI e) 0 σ = _ from vo_c (k := 0) (by omega) (by decide), bd_t, p1, lN_i]
      unfold g_Mo_nameOf_60 g_Mo_nameOf_83
      rw [if_neg (nI_ne (by omega)), show g_Mo_has (nI e) 0 τ = _ from ha_m (k := 0) (by omega) (by decide) (hF 0 (by decide)).2.1, bd_t, if_neg c0, if_neg i10, p2, bd_t]
      exact ⟨nI p, rfl, rfl, Or.inr ⟨p, rfl, p3⟩⟩
