/-! symbols that cover an address, both sides -/
theorem cov_2 {σ τ : am_S} {N U : Nat} {fs A Z bnd wb : Nat → Nat} {x : Int64} (h : OPN σ τ N U fs A Z bnd wb) (hx : τ.1.2 0 59 = x) : ∃ r : Option Nat, g_Sy_covering x σ = some (oN r, σ) ∧ g_Mo_symbol τ = some (oN r, τ) ∧ ∀ i, r = some i → i < 60 ∧ 24 * i + 24 ≤ Z 8 ∧ SY1 σ A Z i := by
  obtain ⟨c, hc, h6, h54, hz, hS⟩ := OPN_sy h
  obtain ⟨a3, a4, hle⟩ := EV_xm (OPN_ev h) 8 (by decide)
  have hb := EV_b (OPN_ev h)
  unfold g_Sy_covering g_Mo_symbol
  have key : ∀ j k, k + j = c → ∀ n n', j < n → j < n' → ∃ r : Option Nat, g_Sy_covering_2 n x (nI k) σ = some (oN r, σ) ∧ g_Mo_symbol_2 n' (nI k) τ = some (oN r, τ) ∧ ∀ i, r = some i → i < 60 ∧ 24 * i + 24 ≤ Z 8 ∧ SY1 σ A Z i := by
    intro j
    induction j with
    | zero =>
      intro k hk n n' hn hn'
      obtain ⟨n, rfl⟩ : ∃ z, n = z + 1 := ⟨n - 1, by omega⟩
      obtain ⟨n', rfl⟩ : ∃ z, n' = z + 1 := ⟨n' - 1, by omega⟩
      refine ⟨none, ?_, ?_, fun e z => by cases z⟩
      · rw [g_Sy_covering_2, h6, if_neg (nI_nlt (by omega) (by omega))]; rfl
      · rw [g_Mo_symbol_2, h54, if_neg (nI_nlt (by omega) (by omega))]; rfl
    | succ j ih =>
      intro k hk n n' hn hn'
      obtain ⟨n, rfl⟩ : ∃ z, n = z + 1 := ⟨n - 1, by omega⟩
      obtain ⟨n', rfl⟩ : ∃ z, n' = z + 1 := ⟨n' - 1, by omega⟩
      obtain ⟨y1, y2, y3, y4⟩ := hS k (by omega)
      have hY := hS k (by omega)
      rw [g_Sy_covering_2, g_Mo_symbol_2]
      unfold g_Sy_covering_47 g_Mo_symbol_74
      rw [h6, h54, if_pos (nI_lt (by omega) (by omega)), if_pos (nI_lt (by omega) (by omega)), inb_nI (n := k) (by omega) (by decide), nI_clamp (n := k) (by omega), show nI k + 1 = nI (k + 1) from nI_add k 1]
      rw [show inb 8 10 = true from rfl, gd_t, show τ.2.1 3 (8 : Int32).toNatClampNeg = nI (A 8) from a3, show (24 : Int32) * nI k = nI (24 * k) from pk_mul 24 k, nI_add, show nI (A 8 + 24 * k) + 8 = nI (A 8 + 24 * k + 8) from nI_add _ 8, show nI (A 8 + 24 * k) + 4 = nI (A 8 + 24 * k + 4) from nI_add _ 4, show nI (A 8 + 24 * k) + 16 = nI (A 8 + 24 * k + 16) from nI_add _ 16]
      rw [show g_Mo_peek (nI (A 8 + 24 * k + 8)) 8 τ = _ from pe_ok (m := 8) (by omega) (by decide), bd_t, inb_nI (n := A 8 + 24 * k + 4) (by omega) (by decide), gd_t, gd_t, nI_clamp (n := A 8 + 24 * k + 4) (by omega), show g_Mo_peek (nI (A 8 + 24 * k + 16)) 8 τ = _ from pe_ok (m := 8) (by omega) (by decide), bd_t, hx, iw_m, bd_t, ← hb]
      have go := ih (k + 1) (by omega) n n' (by omega) (by omega)
      by_cases cF : isFn (σ.2.1 1) (A 8 + 24 * k)
      · rw [if_neg (fun z => (y2.mp z) cF), if_pos ((a15i _ _).mpr cF), gd_t, ib_c, bd_t, gd_t, ib_c, bd_t, y3, y4]
        by_cases h1 : ulB x (lN (num (σ.2.1 1) (A 8 + 24 * k + 8) 8)) = true
        · rw [if_pos h1, if_neg i10, show wiB x (lN (num (σ.2.1 1) (A 8 + 24 * k + 8) 8)) (lN (num (σ.2.1 1) (A 8 + 24 * k + 8) 8) + lN (num (σ.2.1 1) (A 8 + 24 * k + 16) 8)) = false from by unfold wiB; rw [h1]; rfl, if_pos (show (if false = true then (1 : Int32) else 0) = 0 by decide)]
          exact go
        · rw [if_neg h1, if_pos rfl]
          rw [Bool.not_eq_true] at h1
          by_cases h2 : ulB x (lN (num (σ.2.1 1) (A 8 + 24 * k + 8) 8) + lN (num (σ.2.1 1) (A 8 + 24 * k + 16) 8)) = true
          · rw [if_pos h2, if_neg i10, show wiB x (lN (num (σ.2.1 1) (A 8 + 24 * k + 8) 8)) (lN (num (σ.2.1 1) (A 8 + 24 * k + 8) 8) + lN (num (σ.2.1 1) (A 8 + 24 * k + 16) 8)) = true from by unfold wiB; rw [h1, h2]; rfl, if_pos rfl, if_neg i10]
            exact ⟨some k, rfl, rfl, fun i z => by cases z; exact ⟨by omega, by omega, hY⟩⟩
          · rw [if_neg h2, if_pos rfl]
            rw [Bool.not_eq_true] at h2
            rw [show wiB x (lN (num (σ.2.1 1) (A 8 + 24 * k + 8) 8)) (lN (num (σ.2.1 1) (A 8 + 24 * k + 8) 8) + lN (num (σ.2.1 1) (A 8 + 24 * k + 16) 8)) = false from by unfold wiB; rw [h1, h2]; rfl, if_pos (show (if false = true then (1 : Int32) else 0) = 0 by decide)]
            exact go
      · rw [if_pos (y2.mpr cF), if_neg (fun z => cF ((a15i _ _).mp z))]
        exact go
  exact key c 0 (by omega) 4000 4000 (by omega) (by omega)
/-! the chain's frames -/
def FRK (s t : am_S) (k : Nat) : Prop := k ≤ 16 ∧ s.1.1 58 11 = nI k ∧ t.1.1 0 56 = nI k ∧ ∀ j, j < k → ∃ n f l, FRA (s.2.1 1) s j n f l ∧ MF t j n f l
theorem acn_l {τ : am_S} {N U u k : Nat} {c fs A Z bnd wb : Nat → Nat} {x : Int64} (hx : τ.1.2 0 59 = x) : ∀ i, i < k → ∀ σ : am_S, OPN σ (am_fi τ 0 1 0) N U fs A Z bnd wb → CHX σ (am_fi τ 0 1 0) N U u k c → (∀ m, m < k → σ.2.1 59 m = nI (c m)) → σ.1.1 58 11 = nI (k - i) → (∀ j, j < k - i → ∃ n f l, FRA (σ.2.1 1) σ j n f l ∧ MF τ j n f l) → ∀ n, i < n → R1 (g_Fr_addChain_72 n (nI i + (-1)) σ) (fun _ s => FR fW fA σ s ∧ FRK s τ k) := by
  intro i
  induction i with
  | zero =>
    intro hi σ hO hc h59 h11 hF n hn
    obtain ⟨n, rfl⟩ : ∃ z, n = z + 1 := ⟨n - 1, by omega⟩
    rw [g_Fr_addChain_72, if_pos (show nI 0 + (-1) < 0 by decide)]
    exact R1_p ⟨fr_rf, hc.2.2.1, h11, hc.2.2.2.2.1, hF⟩
  | succ i ih =>
    intro hi σ hO hc h59 h11 hF n hn
    obtain ⟨n, rfl⟩ : ∃ z, n = z + 1 := ⟨n - 1, by omega⟩
    have hk := hc.2.2.1
    obtain ⟨nn, f, l, m1, m2, m3, m4⟩ := mf_s (x := x) (j := k - (i + 1)) hO hx hc (by omega) (by omega)
    rw [g_Fr_addChain_72, pk_m1, if_neg (nI_pos (by omega)), inb_nI (n := i) (by omega) (by decide), gd_t, show nI i + 1 = nI (i + 1) from nI_add i 1, inb_nI (n := i + 1) (by omega) (by decide), gd_t, nI_clamp (n := i) (by omega), nI_clamp (n := i + 1) (by omega), h59 i (by omega), h59 (i + 1) (by omega)]
    rw [show k - 1 - (k - (i + 1)) = i by omega, show k - (k - (i + 1)) = i + 1 by omega] at m4
    rw [m4]
    obtain ⟨w, s, e1, p1, p2, p3, p4⟩ := add_c (l := l) (show k - (i + 1) < 16 by omega) h11 m2 m3
    rw [e1, bd_t, bd_t]
    have hb : s.2.1 1 = σ.2.1 1 := fr_b p1 (by decide)
    refine R1_m (ih (by omega) s (OPN_fr hO p1 (fr_rf (W := []) (A := [])) (by decide) (by decide) (by decide) (by decide)) ?_ (fun m hm => ?_) ?_ (fun j hj => ?_) n (by omega)) (fun _ s' _ q => ⟨fr_tr p1 q.1, q.2⟩)
    · obtain ⟨q1, q2, q3, q4, q5, q6, q7⟩ := hc
      exact ⟨q1, q2, q3, q4, q5, q6, CHN_fr q7 p1 (by decide)⟩
    · rw [fr_b p1 (by decide)]; exact h59 m hm
    · rw [p2]; congr 1; omega
    · rw [hb]
      by_cases cj : j = k - (i + 1)
      · subst cj
        exact ⟨nn, f, l, p3, m1⟩
      · obtain ⟨n', f', l', r1, r2⟩ := hF j (by omega)
        exact ⟨n', f', l', FRA_o r1 p4 cj, r2⟩
theorem ac52 {σ τ : am_S} {N U u k : Nat} {c fs A Z bnd wb : Nat → Nat} {x : Int64} (hx : τ.1.2 0 59 = x) (hO : OPN σ (am_fi τ 0 1 0) N U fs A Z bnd wb) (hc : CHX σ (am_fi τ 0 1 0) N U u k c) (h59 : ∀ m, m < k → σ.2.1 59 m = nI (c m)) (h11 : σ.1.1 58 11 = nI 0) : R1 (g_Fr_addChain_52 x (nI k) σ) (fun _ s => FR fW fA σ s ∧ FRK s τ k) := by
  have hk1 := hc.2.1
  have hk := hc.2.2.1
  unfold g_Fr_addChain_52
  obtain ⟨nn, f, l, m1, m2, m3, m4⟩ := mf_0 (x := x) hO hx hc
  rw [show nI k - 1 = nI (k - 1) from nI_subZ (b := 1) (by omega), inb_nI (by omega) (by decide), gd_t, nI_clamp (by omega), h59 _ (by omega), m4]
  obtain ⟨w, s, e1, p1, p2, p3, p4⟩ := add_c (l := l) (show 0 < 16 by omega) h11 m2 m3
  rw [e1, bd_t, bd_t]
  have hb : s.2.1 1 = σ.2.1 1 := fr_b p1 (by decide)
  have e2 : nI k - 2 = nI (k - 1) + (-1) := by
    obtain ⟨m, rfl⟩ : ∃ m, k = m + 1 := ⟨k - 1, by omega⟩
    rw [nI_succ, Nat.add_sub_cancel, Int32.sub_eq_add_neg, Int32.add_assoc]
    rfl
  rw [e2]
  refine R1_m (acn_l (u := u) (c := c) hx (k - 1) (by omega) s (OPN_fr hO p1 (fr_rf (W := []) (A := [])) (by decide) (by decide) (by decide) (by decide)) ?_ (fun m hm => ?_) ?_ (fun j hj => ?_) 4000 (by omega)) (fun _ s' _ q => ⟨fr_tr p1 q.1, q.2⟩)
  · obtain ⟨q1, q2, q3, q4, q5, q6, q7⟩ := hc
    exact ⟨q1, q2, q3, q4, q5, q6, CHN_fr q7 p1 (by decide)⟩
  · rw [fr_b p1 (by decide)]; exact h59 m hm
  · rw [p2]; congr 1; omega
  · rw [hb]
    have : j = 0 := by omega
    subst this
    exact ⟨nn, f, l, p3, m1⟩
