/-! which entries hold an address, both sides -/
def bi (b : Bool) : Int32 := if b then 1 else 0
theorem rAny_s {P : Nat → Bool} {j k : Nat} : rAny P (j + 1) k = (P k || rAny P j (k + 1)) := rfl
theorem BN_le {σ τ : am_S} {N : Nat} {bnd : Nat → Nat} (h : BN σ τ bnd N) : ∀ j e, e + j = N → bnd e ≤ bnd N
  | 0, e, q => by rw [show e = N by omega]; exact Nat.le_refl _
  | j + 1, e, q => Nat.le_trans (h e (by omega)).1.1 (BN_le h j (e + 1) (by omega))
theorem ho_c {σ τ : am_S} {N U e : Nat} {fs A Z bnd wb : Nat → Nat} {x : Int64} (h : OPN σ τ N U fs A Z bnd wb) (he : e < N) : g_Ra_hold (nI e) x σ = some (bi (HO τ x bnd e), σ) := by
  have hl := EV_l (OPN_ev h)
  obtain ⟨⟨b1, b2⟩, b3, b4, b5⟩ := OPN_bn h e he
  have hr := OPN_rn h
  have hm := BN_le (OPN_bn h) (N - (e + 1)) (e + 1) (by omega)
  unfold g_Ra_hold HO
  rw [inb_nI (by omega) (by decide), gd_t, nI_clamp (by omega), b3]
  have key : ∀ j k, k + j = bnd (e + 1) → ∀ n, j < n → g_Ra_hold_8 n (nI e) x (nI k) σ = some (bi (rAny (fun r => wiB x (τ.2.2 23 r) (τ.2.2 24 r)) j k), σ) := by
    intro j
    induction j with
    | zero =>
      intro k hk n hn
      obtain ⟨n, rfl⟩ : ∃ z, n = z + 1 := ⟨n - 1, by omega⟩
      rw [g_Ra_hold_8, inb_nI (by omega) (by decide), gd_t, nI_clamp (by omega), b4, if_neg (nI_nlt (by omega) (by omega))]
      rfl
    | succ j ih =>
      intro k hk n hn
      obtain ⟨n, rfl⟩ : ∃ z, n = z + 1 := ⟨n - 1, by omega⟩
      have hE := hr.2.2.2 k (by omega)
      unfold g_Ra_hold_8 g_Ra_hold_49
      rw [inb_nI (show e < 200 by omega) (by decide), gd_t, nI_clamp (show e < 2 ^ 31 by omega), b4, if_pos (nI_lt (by omega) (by omega)), inb_nI (show k < 300 by omega) (by decide), gd_t, nI_clamp (show k < 2 ^ 31 by omega), ib_c, bd_t, gd_t, ib_c, bd_t, hE.1, hE.2, show nI k + 1 = nI (k + 1) from nI_add k 1, ih (k + 1) (by omega) n (by omega)]
      rw [rAny_s]
      by_cases h1 : ulB x (τ.2.2 23 k) = true
      · rw [if_pos h1, if_neg i10, show wiB x (τ.2.2 23 k) (τ.2.2 24 k) = false from by unfold wiB; rw [h1]; rfl]
        rfl
      · rw [if_neg h1, if_pos rfl]
        rw [Bool.not_eq_true] at h1
        by_cases h2 : ulB x (τ.2.2 24 k) = true
        · rw [if_pos h2, if_neg i10, show wiB x (τ.2.2 23 k) (τ.2.2 24 k) = true from by unfold wiB; rw [h1, h2]; rfl]
          rfl
        · rw [if_neg h2, if_pos rfl]
          rw [Bool.not_eq_true] at h2
          rw [show wiB x (τ.2.2 23 k) (τ.2.2 24 k) = false from by unfold wiB; rw [h1, h2]; rfl]
          rfl
  exact key (bnd (e + 1) - bnd e) (bnd e) (by omega) 4000 (by omega)
theorem ho_m {σ τ : am_S} {N U e : Nat} {fs A Z bnd wb : Nat → Nat} {x : Int64} (h : OPN σ τ N U fs A Z bnd wb) (he : e < N) (hx : τ.1.2 0 59 = x) : g_Mo_holds (nI e) τ = some (bi (HO τ x bnd e), τ) := by
  have hl := EV_l (OPN_ev h)
  obtain ⟨⟨b1, b2⟩, b3, b4, b5⟩ := OPN_bn h e he
  have hr := OPN_rn h
  have b6 : τ.2.1 22 (e + 1) = nI (bnd (e + 1)) := by
    by_cases c : e + 1 < N
    · exact (OPN_bn h (e + 1) c).2.2.2
    · rw [show e + 1 = N by omega]; exact OPN_bN h
  unfold g_Mo_holds HO
  rw [inb_nI (by omega) (by decide), gd_t, nI_clamp (by omega), b5]
  have one : ∀ j k, k + j = bnd (e + 1) → ∀ n, j < n → g_Mo_holds_9 n (nI e) 1 (nI k) τ = some (1, τ) := by
    intro j
    induction j with
    | zero =>
      intro k hk n hn
      obtain ⟨n, rfl⟩ : ∃ z, n = z + 1 := ⟨n - 1, by omega⟩
      rw [g_Mo_holds_9, show nI e + 1 = nI (e + 1) from nI_add e 1, inb_nI (by omega) (by decide), gd_t, nI_clamp (by omega), b6, if_neg (nI_nlt (by omega) (by omega))]
      rfl
    | succ j ih =>
      intro k hk n hn
      obtain ⟨n, rfl⟩ : ∃ z, n = z + 1 := ⟨n - 1, by omega⟩
      unfold g_Mo_holds_9 g_Mo_holds_47 g_Mo_holds_52
      rw [show nI e + 1 = nI (e + 1) from nI_add e 1, inb_nI (by omega) (by decide), gd_t, nI_clamp (show e + 1 < 2 ^ 31 by omega), b6, if_pos (nI_lt (by omega) (by omega)), if_neg i10, show nI k + 1 = nI (k + 1) from nI_add k 1]
      exact ih (k + 1) (by omega) n (by omega)
  have key : ∀ j k, k + j = bnd (e + 1) → ∀ n, j < n → g_Mo_holds_9 n (nI e) 0 (nI k) τ = some (bi (rAny (fun r => wiB x (τ.2.2 23 r) (τ.2.2 24 r)) j k), τ) := by
    intro j
    induction j with
    | zero =>
      intro k hk n hn
      obtain ⟨n, rfl⟩ : ∃ z, n = z + 1 := ⟨n - 1, by omega⟩
      rw [g_Mo_holds_9, show nI e + 1 = nI (e + 1) from nI_add e 1, inb_nI (by omega) (by decide), gd_t, nI_clamp (by omega), b6, if_neg (nI_nlt (by omega) (by omega))]
      rfl
    | succ j ih =>
      intro k hk n hn
      obtain ⟨n, rfl⟩ : ∃ z, n = z + 1 := ⟨n - 1, by omega⟩
      unfold g_Mo_holds_9 g_Mo_holds_47 g_Mo_holds_52
      rw [show nI e + 1 = nI (e + 1) from nI_add e 1, inb_nI (by omega) (by decide), gd_t, nI_clamp (show e + 1 < 2 ^ 31 by omega), b6, if_pos (nI_lt (by omega) (by omega)), if_pos rfl, inb_nI (show k < 300 by omega) (by decide), gd_t, gd_t, nI_clamp (show k < 2 ^ 31 by omega), hx, iw_m, bd_t, show nI k + 1 = nI (k + 1) from nI_add k 1, ih (k + 1) (by omega) n (by omega), one j (k + 1) (by omega) n (by omega)]
      rw [rAny_s]
      by_cases h1 : wiB x (τ.2.2 23 k) (τ.2.2 24 k) = true
      · rw [if_pos h1, if_neg i10, h1]
        rfl
      · rw [if_neg h1, if_pos rfl]
        rw [Bool.not_eq_true] at h1
        rw [h1]
        rfl
  exact key (bnd (e + 1) - bnd e) (bnd e) (by omega) 4000 (by omega)
/-! which entries let an address pass -/
theorem bi_0 (b : Bool) : bi b = 0 ↔ b = false := by cases b <;> decide
def PSB (τ : am_S) (x : Int64) (bnd : Nat → Nat) (e : Nat) : Bool := HO τ x bnd e || !(!decide (τ.2.1 20 (11 * e + 3) = 0) || (!decide (τ.2.1 20 (11 * e + 1) = 0) && !decide (τ.2.1 20 (11 * e + 2) = 0)))
theorem lp_m {σ τ : am_S} {N U e : Nat} {fs A Z bnd wb : Nat → Nat} {x : Int64} (h : OPN σ τ N U fs A Z bnd wb) (he : e < N) (hx : τ.1.2 0 59 = x) (hL : LK (σ.2.2 11 e)) : g_Mo_letsPass (nI e) τ = some (bi (PSB τ x bnd e), τ) := by
  have hl := EV_l (OPN_ev h)
  obtain ⟨u, hu, E⟩ := EV_en (OPN_ev h) e he
  have hF := E.2.2.2.2.2.1.1 hL
  unfold g_Mo_letsPass g_Mo_letsPass_35 g_Mo_letsPass_39 g_Mo_letsPass_40 PSB
  rw [ho_m h he hx, bd_t]
  cases hh : HO τ x bnd e with
  | true => rfl
  | false =>
    rw [if_pos ((bi_0 _).mpr rfl), show g_Mo_has (nI e) 3 τ = _ from ha_m (k := 3) (by omega) (by decide) (hF 3 (by decide)).2.1, bd_t, show g_Mo_has (nI e) 1 τ = _ from ha_m (k := 1) (by omega) (by decide) (hF 1 (by decide)).2.1, bd_t, show g_Mo_has (nI e) 2 τ = _ from ha_m (k := 2) (by omega) (by decide) (hF 2 (by decide)).2.1, bd_t]
    by_cases c3 : τ.2.1 20 (11 * e + 3) = 0
    · rw [if_pos c3, if_pos rfl, decide_eq_true c3]
      by_cases c1 : τ.2.1 20 (11 * e + 1) = 0
      · rw [if_pos c1, if_pos rfl, decide_eq_true c1]; rfl
      · rw [if_neg c1, if_neg i10, decide_eq_false c1]
        by_cases c2 : τ.2.1 20 (11 * e + 2) = 0
        · rw [if_pos c2, if_pos rfl, decide_eq_true c2]; rfl
        · rw [if_neg c2, if_neg i10, decide_eq_false c2]; rfl
    · rw [if_neg c3, if_neg i10, decide_eq_false c3]; rfl
theorem lp_c {σ τ : am_S} {N U e : Nat} {fs A Z bnd wb : Nat → Nat} {x : Int64} {γ : Type} (h : OPN σ τ N U fs A Z bnd wb) (he : e < N) (hL : LK (σ.2.2 11 e)) (f : am_S → Option (γ × am_S)) (g : am_S → Option (γ × am_S)) : (am_bd (g_En_hasPlaces (nI e) σ) fun v21 σ21 => if v21 = 0 then f σ21 else am_bd (g_Ra_hold (nI e) x σ21) fun v27 σ27 => if v27 = 0 then g σ27 else f σ27) = if PSB τ x bnd e then f σ else g σ := by
  have hl := EV_l (OPN_ev h)
  obtain ⟨u, hu, E⟩ := EV_en (OPN_ev h) e he
  have hF := E.2.2.2.2.2.1.1 hL
  unfold g_En_hasPlaces g_En_hasPlaces_27 g_En_hasPlaces_31 g_En_hasPlaces_32 PSB
  rw [show g_En_has (nI e) 3 σ = _ from ha_c (k := 3) (by omega) (by decide), bd_t, show g_En_has (nI e) 1 σ = _ from ha_c (k := 1) (by omega) (by decide), bd_t, show g_En_has (nI e) 2 σ = _ from ha_c (k := 2) (by omega) (by decide), bd_t, (hF 3 (by decide)).1, (hF 2 (by decide)).1, (hF 1 (by decide)).1]
  have tail : (am_bd (g_Ra_hold (nI e) x σ) fun v27 σ27 => if v27 = 0 then g σ27 else f σ27) = if HO τ x bnd e then f σ else g σ := by
    rw [ho_c h he, bd_t]
    cases HO τ x bnd e <;> rfl
  by_cases c3 : τ.2.1 20 (11 * e + 3) = 0
  · rw [if_pos c3, if_pos rfl, decide_eq_true c3]
    by_cases c1 : τ.2.1 20 (11 * e + 1) = 0
    · rw [if_pos c1, if_pos rfl, decide_eq_true c1]
      show f σ = _
      rw [show (HO τ x bnd e || !(!true || (!true && !decide (τ.2.1 20 (11 * e + 2) = 0)))) = true from by cases HO τ x bnd e <;> rfl, if_pos rfl]
    · rw [if_neg c1, if_neg i10, decide_eq_false c1]
      by_cases c2 : τ.2.1 20 (11 * e + 2) = 0
      · rw [if_pos c2, if_pos rfl, decide_eq_true c2]
        show f σ = _
        rw [show (HO τ x bnd e || !(!true || (!false && !true))) = true from by cases HO τ x bnd e <;> rfl, if_pos rfl]
      · rw [if_neg c2, if_neg i10, decide_eq_false c2]
        show (am_bd (g_Ra_hold (nI e) x σ) fun v27 σ27 => if v27 = 0 then g σ27 else f σ27) = _
        rw [tail, show (HO τ x bnd e || !(!true || (!false && !false))) = HO τ x bnd e from by cases HO τ x bnd e <;> rfl]
  · rw [if_neg c3, if_neg i10, decide_eq_false c3]
    show (am_bd (g_Ra_hold (nI e) x σ) fun v27 σ27 => if v27 = 0 then g σ27 else f σ27) = _
    rw [tail, show (HO τ x bnd e || !(!false || (!decide (τ.2.1 20 (11 * e + 1) = 0) && !decide (τ.2.1 20 (11 * e + 2) = 0)))) = HO τ x bnd e from by cases HO τ x bnd e <;> rfl]
