/-! resolving, class -/
def cfB (f : Int32) : Bool := decide (f = 11) || decide (f = 5) || decide (f = 6) || decide (f = 7) || decide (f = 13) || decide (f = 15) || decide (f = 33) || decide (f = 25)
theorem i2l {a b : Int32} : a.toInt64 = b.toInt64 ↔ a = b := by
  constructor
  · intro h
    have := congrArg Int64.toInt h
    rw [Int32.toInt_toInt64, Int32.toInt_toInt64] at this
    exact Int32.toInt_inj.mp this
  · intro h
    rw [h]
theorem cf_eq (f : Int32) : isCF f.toInt64 ↔ cfB f = true := by
  unfold isCF cfB
  simp only [Bool.or_eq_true, decide_eq_true_eq]
  rw [← i2l (a := f) (b := 11), ← i2l (a := f) (b := 5), ← i2l (a := f) (b := 6), ← i2l (a := f) (b := 7), ← i2l (a := f) (b := 13), ← i2l (a := f) (b := 15), ← i2l (a := f) (b := 33), ← i2l (a := f) (b := 25), or_assoc, or_assoc, or_assoc, or_assoc, or_assoc, or_assoc]
  exact Iff.rfl
theorem ic_m {f : Int32} {τ : am_S} : R1 (g_Mo_isConstant f τ) (fun v t => t = τ ∧ ((v = 1 ∧ cfB f = true) ∨ (v = 0 ∧ ¬ cfB f = true))) := by
  unfold g_Mo_isConstant g_Mo_isConstant_47 g_Mo_isConstant_52 cfB
  by_cases c11 : f = 11
  · rw [if_pos c11]
    exact R1_p ⟨rfl, Or.inl ⟨rfl, by simp [c11]⟩⟩
  · rw [if_neg c11]
    by_cases c5 : f = 5
    · rw [if_pos c5]
      exact R1_p ⟨rfl, Or.inl ⟨rfl, by simp [c5]⟩⟩
    · rw [if_neg c5]
      by_cases c6 : f = 6
      · rw [if_pos c6]
        exact R1_p ⟨rfl, Or.inl ⟨rfl, by simp [c6]⟩⟩
      · rw [if_neg c6]
        by_cases c7 : f = 7
        · rw [if_pos c7]
          exact R1_p ⟨rfl, Or.inl ⟨rfl, by simp [c7]⟩⟩
        · rw [if_neg c7]
          by_cases c13 : f = 13
          · rw [if_pos c13]
            exact R1_p ⟨rfl, Or.inl ⟨rfl, by simp [c13]⟩⟩
          · rw [if_neg c13]
            by_cases c15 : f = 15
            · rw [if_pos c15]
              exact R1_p ⟨rfl, Or.inl ⟨rfl, by simp [c15]⟩⟩
            · rw [if_neg c15]
              by_cases c33 : f = 33
              · rw [if_pos c33]
                exact R1_p ⟨rfl, Or.inl ⟨rfl, by simp [c33]⟩⟩
              · rw [if_neg c33]
                by_cases c25 : f = 25
                · rw [if_pos c25]
                  exact R1_p ⟨rfl, Or.inl ⟨rfl, by simp [c25]⟩⟩
                · rw [if_neg c25]
                  exact R1_p ⟨rfl, Or.inr ⟨rfl, by simp [c11, c5, c6, c7, c13, c15, c33, c25]⟩⟩
def rsp (B : Nat → Int32) (A Z : Nat → Nat) (N : Nat) (τ : am_S) (u g : Nat) (low : Int64) (f : Int32) (v : Int64) (k : Nat) : Option Int64 := if k = 0 then oL (nmS B A Z f v (bas τ g 8)) else if k = 1 then adS B A Z f v (bas τ g 9) else if k = 2 then (if cfB f then some (low + v) else adS B A Z f v (bas τ g 9)) else if k = 3 then lsS B A Z f v (bas τ g 10) else if k = 4 then (if f = 19 then oL (fp (orP τ u v) N 0) else none) else (if cfB f then some v else none)
theorem lo_c {e : Nat} {σ : am_S} (he : e < 200) : g_Va_lowOf (nI e) σ = some (if σ.2.1 15 (7 * e + 1) = 0 then 0 else σ.2.2 16 (7 * e + 1), σ) := by
  unfold g_Va_lowOf g_Va_lowOf_25
  rw [show g_En_has (nI e) 1 σ = _ from ha_c (k := 1) he (by decide), bd_t]
  by_cases c : σ.2.1 15 (7 * e + 1) = 0
  · rw [if_pos c, if_pos rfl, if_pos c]
  · rw [if_neg c, if_neg i10, if_neg c, show g_En_valueOf (nI e) 1 σ = _ from vo_c (k := 1) he (by decide), bd_t]
theorem rsd {σ τ : am_S} {N U u e k : Nat} {fs A Z : Nat → Nat} {f : Int32} {v : Int64} (h : EV σ τ N U fs A Z) (hu : u < U) (he : e < N) (hk : k < 7) (h13 : σ.2.1 13 e = nI u) (h8 : k = 0 → f = 8 → ∃ b, v = lN b ∧ TX (σ.2.1 1) b) : R1 (g_Va_resolved (nI e) (nI k) f v σ) (fun w s => VB VW (rsp (σ.2.1 1) A Z N τ u (fs u) (if σ.2.1 15 (7 * e + 1) = 0 then 0 else σ.2.2 16 (7 * e + 1)) f v k) σ w s) := by
  have hl := EV_l h
  unfold g_Va_resolved g_Va_resolved_96 g_Va_resolved_134 rsp
  rw [inb_nI (by omega) (by decide), gd_t, nI_clamp (by omega), h13]
  have ne : ∀ c, c < 7 → ¬ k = c → ¬ nI k = nI c := fun c hc hn z => hn ((nI_eq (by omega) (by omega)).mp z)
  by_cases c0 : k = 0
  · rw [if_pos (show nI k = 0 from c0 ▸ rfl), if_pos c0]
    exact R1_b (te_c h hu (h8 c0)) (fun w s _ k => R1_p k)
  · rw [if_neg (show ¬ nI k = 0 from ne 0 (by omega) c0), if_neg c0]
    by_cases c1 : k = 1
    · rw [if_pos (show nI k = 1 from c1 ▸ rfl), if_pos c1]
      exact R1_b (ad_c' h hu) (fun w s _ k => R1_p k)
    · rw [if_neg (show ¬ nI k = 1 from ne 1 (by omega) c1), if_neg c1]
      by_cases c2 : k = 2
      · rw [if_pos (show nI k = 2 from c2 ▸ rfl), if_pos c2]
        refine R1_b cf_c (fun w s _ kk => ?_)
        obtain ⟨rfl, kk⟩ := kk
        rw [cf_eq] at kk
        rcases kk with ⟨rfl, kk⟩ | ⟨rfl, kk⟩
        · rw [if_neg i10, if_pos kk, lo_c (by omega), bd_t]
          exact R1_p ⟨fr_rf, rfl, Iff.rfl⟩
        · rw [if_pos rfl, if_neg kk]
          exact R1_b (ad_c' h hu) (fun w s _ k => R1_p k)
      · rw [if_neg (show ¬ nI k = 2 from ne 2 (by omega) c2), if_neg c2]
        by_cases c3 : k = 3
        · rw [if_pos (show nI k = 3 from c3 ▸ rfl), if_pos c3]
          exact R1_b (ls_c h hu) (fun w s _ k => R1_p k)
        · rw [if_neg (show ¬ nI k = 3 from ne 3 (by omega) c3), if_neg c3]
          by_cases c4 : k = 4
          · rw [if_pos (show nI k = 4 from c4 ▸ rfl), if_pos c4]
            exact R1_b (or_c h hu) (fun w s _ k => R1_p k)
          · rw [if_neg (show ¬ nI k = 4 from ne 4 (by omega) c4), if_neg c4]
            refine R1_b cf_c (fun w s _ kk => ?_)
            obtain ⟨rfl, kk⟩ := kk
            rw [cf_eq] at kk
            rcases kk with ⟨rfl, kk⟩ | ⟨rfl, kk⟩
            · rw [if_neg i10, if_pos kk]
              exact R1_p ⟨fr_rf, rfl, Iff.rfl⟩
            · rw [if_pos rfl, if_neg kk]
              exact R1_b wr_c (fun w s _ k => R1_p k)
/-! frames of the environment -/
theorem EV1_fr {W W' : List (Nat × Nat)} {A A' : List Nat} {σ τ s t : am_S} {e u : Nat} (h : EV1 σ τ e u) (f : FR W A σ s) (g : FR W' A' τ t) (n : ([1, 11, 12, 13, 14, 15, 17, 18, 19, 20].all (fun k => !A.contains k) && [2, 13, 14, 16, 17, 18, 19, 20, 21].all (fun k => !A'.contains k)) = true) : EV1 s t e u := by
  simp only [List.all_cons, List.all_nil, Bool.and_true, Bool.and_eq_true, Bool.not_eq_true'] at n
  obtain ⟨⟨n1, n11, n12, n13, n14, n15, n17, n18, n19, n20⟩, m2, m13, m14, m16, m17, m18, m19, m20, m21⟩ := n
  obtain ⟨h1, h2, h3, h4, h5, h6, ⟨d, hd, h7, h8⟩, h9⟩ := h
  unfold EV1 FV SV US
  rw [fr_b f n1, fr_c f n11, fr_b f n12, fr_b f n13, fr_b f n14, fr_b f n15, fr_b f n18, fr_b f n19, fr_c f n20, fr_b g m16, fr_b g m17, fr_b g m18, fr_b g m19, fr_b g m20, fr_c g m21]
  exact ⟨h1, h2, h3, h4, h5, h6, ⟨d, hd, DP_up (N := e + 1) (fun _ _ => by rw [fr_b f n12]) (fun _ _ => by rw [fr_b f n13]) d e (by omega) h7, h8⟩, h9⟩
theorem EV_fr {W W' : List (Nat × Nat)} {A A' : List Nat} {σ τ s t : am_S} {N U : Nat} {fs a z : Nat → Nat} (h : EV σ τ N U fs a z) (f : FR W A σ s) (g : FR W' A' τ t) (n : ([1, 11, 12, 13, 14, 15, 17, 18, 19, 20].all (fun k => !A.contains k) && [2, 13, 14, 16, 17, 18, 19, 20, 21].all (fun k => !A'.contains k)) = true) (n' : (A.contains 6 || A.contains 7 || A'.contains 3 || A'.contains 4 || W.contains (10, 10) || W.contains (10, 11) || W'.contains (0, 22) || W'.contains (0, 21)) = false) : EV s t N U fs a z := by
  have n0 := n
  simp only [Bool.or_eq_false_iff] at n'
  obtain ⟨⟨⟨⟨⟨⟨⟨k1, k2⟩, k3⟩, k4⟩, k5⟩, k6⟩, k7⟩, k8⟩ := n'
  simp only [List.all_cons, List.all_nil, Bool.and_true, Bool.and_eq_true, Bool.not_eq_true'] at n
  obtain ⟨⟨n1, n11, n12, n13, n14, n15, n17, n18, n19, n20⟩, m2, m13, m14, m16, m17, m18, m19, m20, m21⟩ := n
  refine ⟨(fr_b f n1).trans ((EV_b h).trans (fr_b g m2).symm), fun q hq => ?_, fun q hq => ?_, (fr_i f k5).trans (EV_n h), (fr_i g k7).trans (EV_m h), EV_l h, (fr_i f k6).trans (EV_u h), (fr_i g k8).trans (EV_v h), EV_u4 h, fun e he => ?_, fun u hu => ?_, EV_fl h⟩
  · rw [fr_b f k1, fr_b f k2]; exact EV_xc h q hq
  · rw [fr_b g k3, fr_b g k4]; exact EV_xm h q hq
  · obtain ⟨u, hu, E⟩ := EV_en h e he
    exact ⟨u, hu, EV1_fr E f g n0⟩
  · unfold UN1
    rw [fr_b f n18, fr_b g m14, fr_b f n17, fr_b g m13, fr_b f n13, fr_c f n11]
    exact EV_un h u hu
/-! all slots of an entry -/
def rsv (B : Nat → Int32) (A Z : Nat → Nat) (N : Nat) (τ : am_S) (e u g k : Nat) : Option Int64 := rsp B A Z N τ u g (if τ.2.1 20 (11 * e + 1) = 0 then 0 else (adS B A Z (τ.2.1 20 (11 * e + 1)) (τ.2.2 21 (11 * e + 1)) (bas τ g 9)).getD 0) (τ.2.1 20 (11 * e + k)) (τ.2.2 21 (11 * e + k)) k
theorem re_l {τ : am_S} {N U u e : Nat} {fs A Z : Nat → Nat} {σ0 : am_S} (h0 : EV σ0 τ N U fs A Z) (hu : u < U) (he : e < N) (h13 : σ0.2.1 13 e = nI u) (hLK : LK (σ0.2.2 11 e)) : ∀ j k, k + j = 7 → ∀ (σ : am_S), FR VW [16] σ0 σ → (∀ i, (i < 7 * e ∨ 7 * e + 7 ≤ i) → σ.2.2 16 i = σ0.2.2 16 i) → ((σ.1.1 37 6 = 0 ∧ (∀ m, m < k → ¬ τ.2.1 20 (11 * e + m) = 0 → rsv (σ0.2.1 1) A Z N τ e u (fs u) m = some (σ.2.2 16 (7 * e + m))) ∧ (∀ m, k ≤ m → m < 7 → ¬ τ.2.1 20 (11 * e + m) = 0 → σ.2.2 16 (7 * e + m) = τ.2.2 21 (11 * e + m))) ∨ (¬ σ.1.1 37 6 = 0 ∧ 1 ≤ k ∧ ∃ m, m < 7 ∧ ¬ τ.2.1 20 (11 * e + m) = 0 ∧ rsv (σ0.2.1 1) A Z N τ e u (fs u) m = none)) → ∀ n, j < n → R1 (g_Va_resolve_2 n (nI e) (nI k) σ) (fun _ s => FR VW [16] σ0 s ∧ (∀ i, (i < 7 * e ∨ 7 * e + 7 ≤ i) → s.2.2 16 i = σ0.2.2 16 i) ∧ ((s.1.1 37 6 = 0 ∧ ∀ m, m < 7 → ¬ τ.2.1 20 (11 * e + m) = 0 → rsv (σ0.2.1 1) A Z N τ e u (fs u) m = some (s.2.2 16 (7 * e + m))) ∨ (¬ s.1.1 37 6 = 0 ∧ ∃ m, m < 7 ∧ ¬ τ.2.1 20 (11 * e + m) = 0 ∧ rsv (σ0.2.1 1) A Z N τ e u (fs u) m = none))) := by
  have hl := EV_l h0
  have hFV : ∀ k, k < 7 → SV σ0 τ (7 * e + k) (11 * e + k) := by
    obtain ⟨u', hu', E⟩ := EV_en h0 e he
    exact E.2.2.2.2.2.1.1 hLK
  intro j
  induction j with
  | zero =>
    intro k hk σ hF hO hI n hn
    obtain ⟨n, rfl⟩ : ∃ z, n = z + 1 := ⟨n - 1, by omega⟩
    rw [g_Va_resolve_2, if_neg (show ¬ nI k < 7 from nI_nlt (b := 7) (by omega) (by omega))]
    refine R1_p ⟨hF, hO, ?_⟩
    rcases hI with ⟨i1, i2, _⟩ | ⟨i1, _, i2⟩
    · exact Or.inl ⟨i1, fun m hm => i2 m (by omega)⟩
    · exact Or.inr ⟨i1, i2⟩
  | succ j ih =>
    intro k hk σ hF hO hI n hn
    obtain ⟨n, rfl⟩ : ∃ z, n = z + 1 := ⟨n - 1, by omega⟩
    have e15 : ∀ m, m < 7 → σ.2.1 15 (7 * e + m) = τ.2.1 20 (11 * e + m) := fun m hm => by rw [fr_b hF (by decide)]; exact (hFV m hm).1
    unfold g_Va_resolve_2 g_Va_resolve_60
    rw [if_pos (show nI k < 7 from nI_lt (b := 7) (by omega) (by omega)), ha_c (by omega) (by omega), bd_t, e15 k (by omega), show nI k + 1 = nI (k + 1) from nI_add k 1]
    by_cases c : τ.2.1 20 (11 * e + k) = 0
    · rw [if_pos c, if_pos rfl]
      refine ih (k + 1) (by omega) σ hF hO ?_ n (by omega)
      rcases hI with ⟨i1, i2, i3⟩ | ⟨i1, i2, i3⟩
      · exact Or.inl ⟨i1, lt_s i2 (fun z => absurd c z), fun m h1 h2 => i3 m (by omega) h2⟩
      · exact Or.inr ⟨i1, by omega, i3⟩
    · rw [if_neg c, if_neg i10, show nI e * 7 = nI (7 * e) from (pk_mul e 7).trans (by rw [Nat.mul_comm]), nI_add, inb_nI (by omega) (by decide), gd_t, gd_t, nI_clamp (by omega), e15 k (by omega)]
      have hE : EV σ τ N U fs A Z := EV_fr h0 hF (fr_rf (W := []) (A := [])) (by decide) (by decide)
      have b1 : σ.2.1 1 = σ0.2.1 1 := fr_b hF (by decide)
      have h13' : σ.2.1 13 e = nI u := by rw [fr_b hF (by decide)]; exact h13
      refine R1_b (rsd (f := τ.2.1 20 (11 * e + k)) (v := σ.2.2 16 (7 * e + k)) hE hu he (by omega) h13' (fun ck cf => ?_)) (fun w s _ kk => ?_)
      · subst ck
        rcases hI with ⟨i1, i2, i3⟩ | ⟨i1, i2, i3⟩
        · rw [i3 0 (by omega) (by omega) c, b1]
          exact (hFV 0 (by omega)).2.2 cf
        · omega
      · rw [gd_t]
        have F1 : FR VW [16] σ0 (am_al s 16 (7 * e + k) w) := fr_al (fr_tr hF (fr_up kk.1 (fun _ h => h) (fun _ h => by cases h))) (by simp)
        have s16 : s.2.2 16 = σ.2.2 16 := fr_c kk.1 (by decide)
        have O1 : ∀ i, (i < 7 * e ∨ 7 * e + 7 ≤ i) → (am_al s 16 (7 * e + k) w).2.2 16 i = σ0.2.2 16 i := fun i hi => by rw [al_no (Or.inr (by omega)), s16]; exact hO i hi
        refine ih (k + 1) (by omega) _ F1 O1 ?_ n (by omega)
        show (s.1.1 37 6 = 0 ∧ _ ∧ _) ∨ (¬ s.1.1 37 6 = 0 ∧ _ ∧ _)
        rcases hI with ⟨i1, i2, i3⟩ | ⟨i1, i2, i3⟩
        · -- so far good
          have hraw := i3 k (by omega) (by omega) c
          have hspec : rsp (σ.2.1 1) A Z N τ u (fs u) (if σ.2.1 15 (7 * e + 1) = 0 then 0 else σ.2.2 16 (7 * e + 1)) (τ.2.1 20 (11 * e + k)) (σ.2.2 16 (7 * e + k)) k = rsv (σ0.2.1 1) A Z N τ e u (fs u) k := by
            unfold rsv
            rw [b1, hraw, e15 1 (by omega)]
            by_cases ck : k = 2
            · subst ck
              by_cases c1 : τ.2.1 20 (11 * e + 1) = 0
              · rw [if_pos c1, if_pos c1]
              · rw [if_neg c1, if_neg c1]
                have h1 := i2 1 (by omega) c1
                have h1' : adS (σ0.2.1 1) A Z (τ.2.1 20 (11 * e + 1)) (τ.2.2 21 (11 * e + 1)) (bas τ (fs u) 9) = some (σ.2.2 16 (7 * e + 1)) := h1
                rw [h1']
                rfl
            · unfold rsp
              simp only [ck, if_false]
          rw [hspec] at kk
          cases hr : rsv (σ0.2.1 1) A Z N τ e u (fs u) k with
          | some x =>
            rw [hr] at kk
            refine Or.inl ⟨kk.2.2.mpr i1, fun m hm hz => ?_, fun m h1 h2 hz => ?_⟩
            · by_cases cm : m = k
              · rw [cm, hr, al_at, kk.2.1]
              · rw [al_no (Or.inr (by omega)), s16]
                exact i2 m (by omega) hz
            · rw [al_no (Or.inr (by omega)), s16]
              exact i3 m (by omega) h2 hz
          | none =>
            rw [hr] at kk
            exact Or.inr ⟨kk.2, by omega, k, by omega, c, hr⟩
        · refine Or.inr ⟨?_, by omega, i3⟩
          have k2 := kk.2
          cases hr : rsp (σ.2.1 1) A Z N τ u (fs u) (if σ.2.1 15 (7 * e + 1) = 0 then 0 else σ.2.2 16 (7 * e + 1)) (τ.2.1 20 (11 * e + k)) (σ.2.2 16 (7 * e + k)) k with
          | some x => rw [hr] at k2; exact fun z => i1 (k2.2.mp z)
          | none => rw [hr] at k2; exact k2
