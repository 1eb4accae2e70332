/-! the reference's view of an entry's values -/
theorem oN_s {p : Nat} : oN (some p) = nI p := rfl
theorem un_f {σ τ : am_S} {N U u : Nat} {fs A Z : Nat → Nat} (h : EV σ τ N U fs A Z) (hu : u < U) : ∀ k, k < 4 → FZ (τ.2.1 20 (11 * fs u + (7 + k))) := by
  have hu4 := EV_u4 h
  have hf := EV_fl h u hu
  obtain ⟨q1, q2, q3, q4, q5, q6⟩ := EV_un h u hu
  obtain ⟨q5, q7⟩ := q5 hf
  obtain ⟨u', hu', E⟩ := EV_en h (fs u) hf
  have : u' = u := (nI_eq (by omega) (by omega)).mp (E.1.symm.trans q5)
  subst this
  exact fun k hk => (E.2.2.2.2.2.1.2.2 q7 k hk).2.1
theorem ba_m {σ τ : am_S} {N U e u k : Nat} {fs A Z : Nat → Nat} (h : EV σ τ N U fs A Z) (he : e < N) (hu : u < U) (h19 : τ.2.1 19 e = nI u) (hk : k < 4) : g_Mo_baseOf (nI e) (nI (7 + k)) τ = some (bas τ (fs u) (7 + k), τ) := by
  have hl := EV_l h
  have hu4 := EV_u4 h
  have hf := EV_fl h u hu
  have q3 := (EV_un h u hu).2.2.1
  unfold g_Mo_baseOf g_Mo_baseOf_31 bas
  rw [inb_nI (by omega) (by decide), gd_t, nI_clamp (by omega), h19, inb_nI (by omega) (by decide), gd_t, nI_clamp (by omega), q3, ha_m (by omega) (by omega) (un_f h hu k hk), bd_t]
  by_cases c : τ.2.1 20 (11 * fs u + (7 + k)) = 0
  · rw [if_pos c, if_pos rfl, if_pos c]
  · rw [if_neg c, if_neg i10, if_neg c, va_m (by omega) (by omega), bd_t]
theorem nm_m' {σ τ : am_S} {N U e u : Nat} {fs A Z : Nat → Nat} (h : EV σ τ N U fs A Z) (he : e < N) (hu : u < U) (h19 : τ.2.1 19 e = nI u) (h8 : τ.2.1 20 (11 * e + 0) = 8 → ∃ b, τ.2.2 21 (11 * e + 0) = lN b ∧ TX (τ.2.1 2) b) : g_Mo_nameAt (nI e) τ = some (oN (nmS (τ.2.1 2) A Z (τ.2.1 20 (11 * e + 0)) (τ.2.2 21 (11 * e + 0)) (bas τ (fs u) 8)), τ) := by
  have hl := EV_l h
  have hti : ∀ (s : Nat) (x : Int64), s < 10 → g_Mo_textIn (nI s) x τ = some (oN (txt (τ.2.1 2) (A s) (A s + Z s) x), τ) := fun s x hs => by
    obtain ⟨h3, h4, hle⟩ := EV_xm h s hs
    have := ti_ok (x := x) (b := A s + Z s) hs h3 (by rw [h4]; congr 1; omega) (by omega) hle
    rw [this]
    cases txt (τ.2.1 2) (A s) (A s + Z s) x <;> rfl
  unfold g_Mo_nameAt g_Mo_nameAt_111 nmS
  rw [show g_Mo_valueAt (nI e) 0 τ = _ from va_m (k := 0) (by omega) (by decide), bd_t, show g_Mo_formAt (nI e) 0 τ = _ from fo_m (k := 0) (by omega) (by decide), bd_t]
  by_cases c1 : τ.2.1 20 (11 * e + 0) = 8
  · rw [if_pos c1, if_pos c1]
    obtain ⟨b, e1, e2, q1, q2, _⟩ := h8 c1
    rw [e1, lN_toInt (by omega), lN_i]
    rfl
  · rw [if_neg c1, if_neg c1]
    by_cases c2 : τ.2.1 20 (11 * e + 0) = 14
    · rw [if_pos c2, if_pos c2, show g_Mo_textIn 2 _ τ = _ from hti 2 _ (by decide), bd_t]
    · rw [if_neg c2, if_neg c2]
      by_cases c3 : τ.2.1 20 (11 * e + 0) = 31
      · rw [if_pos c3, if_pos c3, show g_Mo_textIn 3 _ τ = _ from hti 3 _ (by decide), bd_t]
      · rw [if_neg c3, if_neg c3]
        by_cases c4 : τ.2.1 20 (11 * e + 0) = 37
        · rw [if_pos c4, if_pos c4, show g_Mo_baseOf (nI e) 8 τ = _ from ba_m (k := 1) h he hu h19 (by decide), bd_t]
          obtain ⟨v, t, ei, ht, hv⟩ := ix_m (s := 4) (n := 4) (b := bas τ (fs u) 8) (i := τ.2.2 21 (11 * e + 0)) (EV_xm h) (by decide) (by decide)
          rw [show g_Mo_indexed 4 (bas τ (fs u) (7 + 1)) _ 4 τ = _ from ei, bd_t, hv, ht]
          cases hi : idx (A 4) (Z 4) 4 (bas τ (fs u) 8) (τ.2.2 21 (11 * e + 0)) with
          | some p =>
            have hp : p + 4 ≤ 3000 := by
              unfold idx at hi
              split at hi
              · cases hi
              · obtain ⟨m, _, _, q, rfl⟩ := plc_some hi
                have := (EV_xm h 4 (by decide)).2.2
                omega
            rw [oN_s, if_neg (nI_ne (by omega)), show g_Mo_peek (nI p) 4 τ = _ from pe_ok (m := 4) (by omega) (by decide), bd_t, show g_Mo_textIn 2 _ τ = _ from hti 2 _ (by decide), bd_t]
          | none => rfl
        · rw [if_neg c4, if_neg c4]
          rfl
def AD (o : Option Int64) (τ : am_S) (y : Int32) (t : am_S) : Prop := FR [(0, 37)] [] τ t ∧ match o with
  | some x => y = 1 ∧ t.1.2 0 37 = x
  | none => y = 0
theorem ata_m {σ τ : am_S} {N U e u : Nat} {fs A Z : Nat → Nat} {v : Int64} (h : EV σ τ N U fs A Z) (he : e < N) (hu : u < U) (h19 : τ.2.1 19 e = nI u) : R1 (g_Mo_addressAt (nI e) v τ) (AD ((idx (A 5) (Z 5) 8 (bas τ (fs u) 9) v).map (fun p => lN (num (τ.2.1 2) p 8))) τ) := by
  unfold g_Mo_addressAt g_Mo_addressAt_36 g_Mo_addressAt_50
  rw [show g_Mo_baseOf (nI e) 9 τ = _ from ba_m (k := 2) h he hu h19 (by decide), bd_t]
  obtain ⟨w, t, ei, ht, hv⟩ := ix_m (s := 5) (n := 8) (b := bas τ (fs u) 9) (i := v) (EV_xm h) (by decide) (by decide)
  rw [show g_Mo_indexed 5 (bas τ (fs u) (7 + 2)) _ 8 τ = _ from ei, bd_t, hv, ht]
  cases hi : idx (A 5) (Z 5) 8 (bas τ (fs u) 9) v with
  | some p =>
    have hp : p + 8 ≤ 3000 := by
      unfold idx at hi
      split at hi
      · cases hi
      · obtain ⟨m, _, _, q, rfl⟩ := plc_some hi
        have := (EV_xm h 5 (by decide)).2.2
        omega
    rw [oN_s, if_neg (nI_ne (by omega)), show g_Mo_peek (nI p) 8 τ = _ from pe_ok (m := 8) (by omega) (by decide), bd_t, if_neg (nI_ne (by omega))]
    exact R1_p ⟨fr_fl fr_rf (by simp), rfl, fl_at⟩
  | none => exact R1_p ⟨fr_fl fr_rf (by simp), rfl⟩
theorem bas_fr {W : List (Nat × Nat)} {A : List Nat} {τ t : am_S} {f k : Nat} (g : FR W A τ t) (n1 : A.contains 20 = false) (n2 : A.contains 21 = false) : bas t f k = bas τ f k := by
  unfold bas
  rw [fr_b g n1, fr_c g n2]
theorem ad_m {σ τ : am_S} {N U e u k : Nat} {fs A Z : Nat → Nat} (h : EV σ τ N U fs A Z) (he : e < N) (hu : u < U) (h19 : τ.2.1 19 e = nI u) (hk : k < 11) (hf : τ.2.1 20 (11 * e + k) = 1 ∨ τ.2.1 20 (11 * e + k) = 27) : R1 (g_Mo_address (nI e) (nI k) τ) (AD (adS (τ.2.1 2) A Z (τ.2.1 20 (11 * e + k)) (τ.2.2 21 (11 * e + k)) (bas τ (fs u) 9)) τ) := by
  have hl := EV_l h
  unfold g_Mo_address g_Mo_address_33 g_Mo_address_38 adS
  rw [va_m (by omega) hk, bd_t, fo_m (by omega) hk, bd_t]
  have g0 : FR [(0, 37)] [] τ (am_fl τ 0 37 (τ.2.2 21 (11 * e + k))) := fr_fl fr_rf (by simp)
  rw [show (am_fl τ 0 37 (τ.2.2 21 (11 * e + k))).2.1 20 (11 * e + k) = τ.2.1 20 (11 * e + k) from rfl, fl_at]
  rcases hf with c | c
  · rw [if_neg (by rw [c]; decide), if_pos c]
    exact R1_p ⟨g0, rfl, fl_at⟩
  · rw [if_pos c, if_neg (by rw [c]; decide), if_pos c]
    have h' := EV_fr h (fr_rf (W := []) (A := [])) g0 (by decide) (by decide)
    refine R1_b (ata_m (v := τ.2.2 21 (11 * e + k)) h' he hu h19) (fun y t _ kk => ?_)
    rw [bas_fr g0 (by decide) (by decide), show (am_fl τ 0 37 (τ.2.2 21 (11 * e + k))).2.1 2 = τ.2.1 2 from rfl] at kk
    cases hi : (idx (A 5) (Z 5) 8 (bas τ (fs u) 9) (τ.2.2 21 (11 * e + k))).map (fun p => lN (num (τ.2.1 2) p 8)) with
    | some x =>
      rw [hi] at kk
      obtain ⟨k1, rfl, k3⟩ := kk
      rw [if_neg i10]
      exact R1_p ⟨fr_tr g0 k1, rfl, k3⟩
    | none =>
      rw [hi] at kk
      obtain ⟨k1, k2⟩ := kk
      have k2 : y = 0 := k2
      subst k2
      rw [if_pos rfl]
      exact R1_p ⟨fr_tr g0 k1, rfl⟩
theorem ia_m {f : Int32} {τ : am_S} : R1 (g_Mo_isAddress f τ) (fun v t => t = τ ∧ ((v = 1 ∧ (f = 1 ∨ f = 27)) ∨ (v = 0 ∧ ¬ (f = 1 ∨ f = 27)))) := by
  unfold g_Mo_isAddress g_Mo_isAddress_11 g_Mo_isAddress_16
  by_cases c1 : f = 1
  · rw [if_pos c1]
    exact R1_p ⟨rfl, Or.inl ⟨rfl, Or.inl c1⟩⟩
  · rw [if_neg c1]
    by_cases c2 : f = 27
    · rw [if_pos c2]
      exact R1_p ⟨rfl, Or.inl ⟨rfl, Or.inr c2⟩⟩
    · rw [if_neg c2]
      exact R1_p ⟨rfl, Or.inr ⟨rfl, fun z => z.elim c1 c2⟩⟩
theorem adS_no {B : Nat → Int32} {A Z : Nat → Nat} {f : Int32} {v b : Int64} (h : ¬ (f = 1 ∨ f = 27)) : adS B A Z f v b = none := by
  unfold adS
  rw [if_neg (fun z => h (Or.inl z)), if_neg (fun z => h (Or.inr z))]
