/-! one name of a table, both sides -/
theorem tac {s : Nat} {x : Int64} {σ : am_S} {A Z : Nat → Nat} (h : SXc σ A Z) (hs : s < 10) : R1 (g_Se_textAt (nI s) x σ) (fun v t => FR [(9, 1), (9, 2), (9, 3)] [] σ t ∧ v = oN (txt (σ.2.1 1) (A s) (A s + Z s) x)) := by
  obtain ⟨h6, h7, hle⟩ := h s hs
  obtain ⟨σ', e⟩ := ta_ok (x := x) hs h6 h7 (by omega) hle
  refine ⟨_, _, e, f_Se_textAt e, ?_⟩
  cases txt (σ.2.1 1) (A s) (A s + Z s) x <;> rfl
theorem tim {s : Nat} {x : Int64} {τ : am_S} {A Z : Nat → Nat} (h : SXm τ A Z) (hs : s < 10) : g_Mo_textIn (nI s) x τ = some (oN (txt (τ.2.1 2) (A s) (A s + Z s) x), τ) := by
  obtain ⟨h3, h4, hle⟩ := h s hs
  have := ti_ok (x := x) (b := A s + Z s) hs h3 (by rw [h4]; congr 1; omega) (by omega) hle
  rw [this]
  cases txt (τ.2.1 2) (A s) (A s + Z s) x <;> rfl
theorem lv_b {f : Int32} {σ : am_S} (h : ¬ σ.1.1 51 3 = 0) : R1 (g_Li_readValue f σ) (fun _ s => ¬ s.1.1 51 3 = 0 ∧ FR [(51, 1), (51, 3)] [] σ s) := by
  unfold g_Li_readValue
  by_cases c1 : f = 5
  · rw [if_pos c1]
    exact R1_b (R1n h) (fun _ s _ k => R1_p k.2)
  · rw [if_neg c1]
    by_cases c2 : f = 8
    · rw [if_pos c2]
      exact R1_b (R1t h) (fun _ s _ k => R1_p k)
    · rw [if_neg c2]
      by_cases c3 : f = 11
      · rw [if_pos c3]
        exact R1_b (R1n h) (fun _ s _ k => R1_p k.2)
      · rw [if_neg c3]
        by_cases c4 : f = 31
        · rw [if_pos c4]
          exact R1_b (R1n h) (fun _ s _ k => R1_p k.2)
        · rw [if_neg c4]
          exact R1_b (R1ul h) (fun _ s _ k => R1_p k.2)
theorem rn_cb {n : Nat} {A Z : Nat → Nat} (hn6 : n ≤ 6) : ∀ j i, i + j = n → ∀ (σ : am_S) (at' : Int32), SXc σ A Z → σ.1.1 49 6 = nI n → ¬ σ.1.1 51 3 = 0 → ∀ N, j < N → R1 (g_Li_readName_4 N at' (nI i) σ) (fun _ s => ¬ s.1.1 51 3 = 0) := by
  intro j
  induction j with
  | zero =>
    intro i hi σ a hS h6 hb N hN
    obtain ⟨N, rfl⟩ : ∃ z, N = z + 1 := ⟨N - 1, by omega⟩
    unfold g_Li_readName_4 g_Li_readName_96
    rw [h6, if_neg (nI_nlt (by omega) (by omega))]
    exact R1_p hb
  | succ j ih =>
    intro i hi σ a hS h6 hb N hN
    obtain ⟨N, rfl⟩ : ∃ z, N = z + 1 := ⟨N - 1, by omega⟩
    rw [g_Li_readName_4, h6, if_pos (nI_lt (by omega) (by omega)), if_pos (show nI i < 6 from nI_lt (b := 6) (by omega) (by omega)), inb_nI (show i < 6 by omega) (by decide), gd_t, nI_clamp (by omega)]
    refine R1_b (lv_b hb) (fun v s _ k => ?_)
    rw [gd_t]
    unfold g_Li_readName_62 g_Li_readName_82 g_Li_readName_87 g_Li_readName_90
    rw [show nI i + 1 = nI (i + 1) from nI_add i 1, show z01 1 = true from by decide]
    have S1 := SXc_fr hS k.2
    have s6 : s.1.1 49 6 = nI n := (fr_i k.2 (by decide)).trans h6
    have go : ∀ (s' : am_S) (a' : Int32), SXc s' A Z → s'.1.1 49 6 = nI n → ¬ s'.1.1 51 3 = 0 → R1 (g_Li_readName_4 N a' (nI (i + 1)) s') (fun _ s => ¬ s.1.1 51 3 = 0) := fun s' a' q1 q2 q3 => ih (i + 1) (by omega) s' a' q1 q2 q3 N (by omega)
    have g1 : ∀ (s' : am_S) (a' : Int32), SXc s' A Z → s'.1.1 49 6 = nI n → ¬ s'.1.1 51 3 = 0 → R1 (if s'.1.1 51 3 = 0 then if a' = -1 then am_gd true (g_Li_readName_4 N a' (nI (i + 1)) (am_fi s' 51 3 1)) else am_gd (z01 0) (g_Li_readName_4 N a' (nI (i + 1)) (am_fi s' 51 3 0)) else am_gd true (g_Li_readName_4 N a' (nI (i + 1)) (am_fi s' 51 3 1))) (fun _ s => ¬ s.1.1 51 3 = 0) := fun s' a' q1 q2 q3 => by
      rw [if_neg q3, gd_t]
      exact go _ a' (SXc_fr q1 (fr_fi (W := [(51, 3)]) fr_rf (by simp))) ((fi_no (Or.inl (by decide))).trans q2) (by rw [fi_at]; decide)
    by_cases c7 : nI i = s.1.1 49 7
    · rw [if_pos c7]
      by_cases c8 : s.2.1 50 i = 8
      · rw [if_pos c8]
        exact g1 s _ S1 s6 k.1
      · rw [if_neg c8]
        refine R1_b (tac (s := 3) S1 (by decide)) (fun v2 s2 _ k2 => ?_)
        exact g1 s2 _ (SXc_fr S1 k2.1) ((fr_i k2.1 (by decide)).trans s6) (by rw [fr_i k2.1 (by decide)]; exact k.1)
    · rw [if_neg c7]
      exact go s a S1 s6 k.1
theorem lv_2 {f p q : Nat} {σ τ : am_S} (hf : f ∈ FS) (h : RG 51 σ τ p q) : R2 (g_Li_readValue (nI f) σ) (g_Mo_readValue (nI f) 0 τ) (RV 51 f p q σ τ) := by
  unfold g_Li_readValue g_Mo_readValue g_Mo_readValue_171 g_Mo_readValue_183 g_Mo_readValue_195
  simp only [FS, List.mem_cons, List.not_mem_nil, or_false] at hf
  rcases hf with rfl | rfl | rfl | rfl | rfl
  · rw [if_neg (show ¬ nI 8 = 5 by decide), if_pos (show nI 8 = 8 from rfl), if_neg (show ¬ nI 8 = 1 by decide), if_neg (show ¬ nI 8 = 5 by decide), if_neg (show ¬ nI 8 = 6 by decide), if_neg (show ¬ nI 8 = 7 by decide), if_pos (show nI 8 = 8 from rfl)]
    exact rv_t h
  · rw [if_neg (show ¬ nI 31 = 5 by decide), if_neg (show ¬ nI 31 = 8 by decide), if_neg (show ¬ nI 31 = 11 by decide), if_pos (show nI 31 = 31 from rfl), if_neg (show ¬ nI 31 = 1 by decide), if_neg (show ¬ nI 31 = 5 by decide), if_neg (show ¬ nI 31 = 6 by decide), if_neg (show ¬ nI 31 = 7 by decide), if_neg (show ¬ nI 31 = 8 by decide), if_neg (show ¬ nI 31 = 11 by decide), if_neg (show ¬ nI 31 = 13 by decide), if_neg (show ¬ nI 31 = 14 by decide), if_neg (show ¬ nI 31 = 15 by decide), if_neg (show ¬ nI 31 = 19 by decide), if_neg (show ¬ nI 31 = 23 by decide), if_neg (show ¬ nI 31 = 25 by decide), if_neg (show ¬ nI 31 = 27 by decide), if_pos (show nI 31 = 31 from rfl)]
    exact rv_u (m := 4) h (by omega) (by omega) (by decide)
  · rw [if_neg (show ¬ nI 11 = 5 by decide), if_neg (show ¬ nI 11 = 8 by decide), if_pos (show nI 11 = 11 from rfl), if_neg (show ¬ nI 11 = 1 by decide), if_neg (show ¬ nI 11 = 5 by decide), if_neg (show ¬ nI 11 = 6 by decide), if_neg (show ¬ nI 11 = 7 by decide), if_neg (show ¬ nI 11 = 8 by decide), if_pos (show nI 11 = 11 from rfl)]
    exact rv_u (m := 1) h (by omega) (by omega) (by decide)
  · rw [if_pos (show nI 5 = 5 from rfl), if_neg (show ¬ nI 5 = 1 by decide), if_pos (show nI 5 = 5 from rfl)]
    exact rv_u (m := 2) h (by omega) (by omega) (by decide)
  · rw [if_neg (show ¬ nI 15 = 5 by decide), if_neg (show ¬ nI 15 = 8 by decide), if_neg (show ¬ nI 15 = 11 by decide), if_neg (show ¬ nI 15 = 31 by decide), if_neg (show ¬ nI 15 = 1 by decide), if_neg (show ¬ nI 15 = 5 by decide), if_neg (show ¬ nI 15 = 6 by decide), if_neg (show ¬ nI 15 = 7 by decide), if_neg (show ¬ nI 15 = 8 by decide), if_neg (show ¬ nI 15 = 11 by decide), if_neg (show ¬ nI 15 = 13 by decide), if_neg (show ¬ nI 15 = 14 by decide), if_pos (show nI 15 = 15 from rfl)]
    exact rv_l h (by decide)
theorem FS_p : ∀ f, f ∈ FS → ¬ f = 33 ∧ ¬ f = 25 ∧ f < 32 := by decide
/-- the place of a name: none, or a text -/
def PL (B : Nat → Int32) (x : Int32) : Prop := x = -1 ∨ ∃ b, x = nI b ∧ TX B b
def NP (σ τ : am_S) (p q m : Nat) (x : Int32) (s : am_S) (y : Int32) (t : am_S) : Prop := FR [(9, 1), (9, 2), (9, 3), (51, 1), (51, 3)] [] σ s ∧ FR [(0, 6), (0, 8)] [] τ t ∧ ((y = x ∧ PL (σ.2.1 1) x ∧ ∃ p', p + m ≤ p' ∧ RG 51 s t p' q) ∨ (y = -2 ∧ BD 51 s t))
theorem PL_2 {B : Nat → Int32} {x : Int32} (h : PL B x) : ¬ x = -2 := by
  rcases h with rfl | ⟨b, rfl, e, h1, h2, _⟩
  · decide
  · exact nm2 (n := b + 1) (by omega) (by omega)
theorem o91 {x : Int32} {τ : am_S} (h : ¬ τ.1.1 0 8 = 0) : g_Mo_readOne_91 x τ = some (-2, τ) := by
  unfold g_Mo_readOne_91 g_Mo_readOne_104
  rw [if_neg h]
theorem o5b {N : Nat} {x1 x2 x3 x4 : Int32} {τ : am_S} (h : ¬ τ.1.1 0 8 = 0) : g_Mo_readOne_5 (N + 1) x1 x2 x3 x4 τ = some (-2, τ) := by
  rw [g_Mo_readOne_5, if_neg h, o91 h]
  simp only [ite_self]
theorem rn_l {n q : Nat} {A Z : Nat → Nat} {nm : Int32} (hn6 : n ≤ 6) {σ0 τ0 : am_S} {p0 : Nat} : ∀ j i, i + j = n → ∀ (σ τ : am_S) (p : Nat) (a : Int32), p0 + i ≤ p → RG 51 σ τ p q → FR [(9, 1), (9, 2), (9, 3), (51, 1), (51, 3)] [] σ0 σ → FR [(0, 6), (0, 8)] [] τ0 τ → SXc σ0 A Z → SXm τ0 A Z → σ0.1.1 49 6 = nI n → σ0.1.1 49 7 = nm → FMt σ0 τ0 n nm → PL (σ0.2.1 1) a → ∀ N N', j < N → j < N' → R2 (g_Li_readName_4 N a (nI i) σ) (g_Mo_readOne_5 N' (nI n) nm a (nI i) τ) (NP σ0 τ0 p0 q n) := by
  intro j
  induction j with
  | zero =>
    intro i hi σ τ p a hp hG f0 g0 hc hm h6 h7 hF ha N N' hN hN'
    obtain ⟨N, rfl⟩ : ∃ z, N = z + 1 := ⟨N - 1, by omega⟩
    obtain ⟨N', rfl⟩ : ∃ z, N' = z + 1 := ⟨N' - 1, by omega⟩
    unfold g_Li_readName_4 g_Li_readName_96 g_Mo_readOne_5 g_Mo_readOne_91 g_Mo_readOne_104
    rw [fr_i f0 (by decide), h6, if_neg (nI_nlt (by omega) (by omega)), if_neg (nI_nlt (by omega) (by omega)), if_pos (RG_8 hG)]
    exact R2_p ⟨f0, g0, Or.inl ⟨rfl, ha, p, by omega, hG⟩⟩
  | succ j ih =>
    intro i hi σ τ p a hp hG f0 g0 hc hm h6 h7 hF ha N N' hN hN'
    obtain ⟨N, rfl⟩ : ∃ z, N = z + 1 := ⟨N - 1, by omega⟩
    obtain ⟨N', rfl⟩ : ∃ z, N' = z + 1 := ⟨N' - 1, by omega⟩
    obtain ⟨f, hf, ec, em⟩ := hF.1 i (by omega)
    have hbB : σ.2.1 1 = σ0.2.1 1 := fr_b f0 (by decide)
    rw [g_Li_readName_4, g_Mo_readOne_5, show σ.1.1 49 6 = nI n from (fr_i f0 (by decide)).trans h6, if_pos (nI_lt (by omega) (by omega)), if_pos (nI_lt (by omega) (by omega)), if_pos (show nI i < 6 from nI_lt (b := 6) (by omega) (by omega)), if_pos (RG_8 hG), inb_nI (show i < 6 by omega) (by decide), gd_t, gd_t, nI_clamp (show i < 2 ^ 31 by omega), fr_b f0 (by decide), ec, fr_b g0 (by decide), em]
    obtain ⟨v1, s1, w1, t1, e1, e1', f1, g1, k1⟩ := lv_2 hf hG
    rw [e1, e1', bd_t, bd_t]
    have F1 : FR [(9, 1), (9, 2), (9, 3), (51, 1), (51, 3)] [] σ0 s1 := fr_tr f0 (fr_up f1 (by decide) (fun _ h => h))
    have K1 : FR [(0, 6), (0, 8)] [] τ0 t1 := fr_tr g0 g1
    have s7 : s1.1.1 49 7 = nm := (fr_i F1 (by decide)).trans h7
    have s6 : s1.1.1 49 6 = nI n := (fr_i F1 (by decide)).trans h6
    have s50 : s1.2.1 50 i = nI f := by rw [fr_b F1 (by decide)]; exact ec
    have t29 : t1.2.1 29 i = nI f := by rw [fr_b K1 (by decide)]; exact em
    have S1 : SXc s1 A Z := SXc_fr hc F1
    have M1 : SXm t1 A Z := fun k hk => by rw [fr_b K1 (by decide), fr_b K1 (by decide)]; exact hm k hk
    unfold g_Li_readName_62 g_Li_readName_82 g_Li_readName_87 g_Li_readName_90 g_Mo_readOne_70 g_Mo_readOne_82 g_Mo_readOne_85
    rw [s7, s50, t29, show nI i + 1 = nI (i + 1) from nI_add i 1]
    -- the class goes on with a bad cursor
    have goB : ∀ (s : am_S) (a' : Int32), FR [(9, 1), (9, 2), (9, 3), (51, 1), (51, 3)] [] σ0 s → ¬ s.1.1 51 3 = 0 → R1 (g_Li_readName_4 N a' (nI (i + 1)) s) (fun _ s' => ¬ s'.1.1 51 3 = 0 ∧ FR [(9, 1), (9, 2), (9, 3), (51, 1), (51, 3)] [] σ0 s') := fun s a' F hb => by
      refine R1_m (rn_cb hn6 j (i + 1) (by omega) s a' (SXc_fr hc F) ((fr_i F (by decide)).trans h6) hb N (by omega)) (fun v s' e k => ⟨k, fr_tr F ?_⟩)
      exact fr_up (f_Li_readName_4 _ e) (by decide) (fun _ h => h)
    have badE : ∀ (s t : am_S) (a' a'' : Int32), FR [(9, 1), (9, 2), (9, 3), (51, 1), (51, 3)] [] σ0 s → FR [(0, 6), (0, 8)] [] τ0 t → ¬ s.1.1 51 3 = 0 → ¬ t.1.1 0 8 = 0 → R2 (g_Li_readName_4 N a' (nI (i + 1)) s) (g_Mo_readOne_5 N' (nI n) nm a'' (nI (i + 1)) t) (NP σ0 τ0 p0 q n) := fun s t a' a'' F K b1 b2 => by
      obtain ⟨N', rfl⟩ : ∃ z, N' = z + 1 := ⟨N' - 1, by omega⟩
      rw [o5b b2]
      obtain ⟨x, s', e, q1, q2⟩ := goB s a' F b1
      exact ⟨x, s', _, _, e, rfl, q2, K, Or.inr ⟨rfl, q1, b2⟩⟩
    rcases k1 with ⟨p1, hp1, hp1q, G1, rfl, hx8, hlt⟩ | b1
    · have hlt := hlt (FS_p f hf).1 (FS_p f hf).2.1
      rw [if_pos (RG_8 G1)]
      by_cases c7 : nI i = nm
      · rw [if_pos c7, if_pos c7]
        have goG : ∀ (s t : am_S) (a' : Int32), FR [(9, 1), (9, 2), (9, 3), (51, 1), (51, 3)] [] σ0 s → FR [(0, 6), (0, 8)] [] τ0 t → RG 51 s t p1 q → PL (σ0.2.1 1) a' → R2 (if s.1.1 51 3 = 0 then if a' = -1 then am_gd (z01 1) (g_Li_readName_4 N a' (nI (i + 1)) (am_fi s 51 3 1)) else am_gd (z01 0) (g_Li_readName_4 N a' (nI (i + 1)) (am_fi s 51 3 0)) else am_gd (z01 1) (g_Li_readName_4 N a' (nI (i + 1)) (am_fi s 51 3 1))) (if a' = -1 then am_gd (z01 1) (g_Mo_readOne_5 N' (nI n) nm a' (nI (i + 1)) (am_fi t 0 8 1)) else am_gd (z01 0) (g_Mo_readOne_5 N' (nI n) nm a' (nI (i + 1)) (am_fi t 0 8 0))) (NP σ0 τ0 p0 q n) := by
          intro s t a' F K G hP
          rw [if_pos (RG_3 G), show z01 1 = true from by decide, show z01 0 = true from by decide]
          simp only [gd_t]
          by_cases ca : a' = -1
          · rw [if_pos ca, if_pos ca]
            exact badE _ _ a' a' (fr_fi F (by decide)) (fr_fi K (by decide)) (by rw [fi_at]; decide) (by rw [fi_at]; decide)
          · rw [if_neg ca, if_neg ca, fi_same (RG_3 G), fi_same (RG_8 G)]
            exact ih (i + 1) (by omega) s t p1 a' (by omega) G F K hc hm h6 h7 hF hP N N' (by omega) (by omega)
        by_cases c8 : nI f = 8
        · rw [if_pos c8, if_pos c8]
          have hf8 : f = 8 := (nI_eq (b := 8) (by have := (FS_p f hf).2.2; omega) (by omega)).mp c8
          obtain ⟨b, rfl, e, q1, q2, q3⟩ := hx8 hf8
          rw [lN_i]
          rw [hbB] at q3
          exact goG s1 t1 (nI b) F1 K1 G1 (Or.inr ⟨b, rfl, e, q1, q2, q3⟩)
        · rw [if_neg c8, if_neg c8]
          obtain ⟨v2, s2, e2, F2, rfl⟩ := tac (s := 3) (x := v1) S1 (by decide)
          rw [show g_Se_textAt 3 v1 s1 = _ from e2, bd_t, show g_Mo_textIn 3 v1 t1 = _ from tim (s := 3) M1 (by decide), bd_t, ← G1.2.2]
          have F2' : FR [(9, 1), (9, 2), (9, 3), (51, 1), (51, 3)] [] σ0 s2 := fr_tr F1 (fr_up F2 (by decide) (fun _ h => h))
          refine goG s2 t1 _ F2' K1 (RG_fr G1 F2 (fr_rf (W := []) (A := [])) (by decide)) ?_
          cases ht : txt (s1.2.1 1) (A 3) (A 3 + Z 3) v1 with
          | some b =>
            have := (S1 3 (by decide)).2.2
            rw [show s1.2.1 1 = σ0.2.1 1 from fr_b F1 (by decide)] at ht
            exact Or.inr ⟨b, rfl, txt_tx this (by omega) ht⟩
          | none => exact Or.inl rfl
      · rw [if_neg c7, if_neg c7]
        exact ih (i + 1) (by omega) s1 t1 p1 a (by omega) G1 F1 K1 hc hm h6 h7 hF ha N N' (by omega) (by omega)
    · rw [if_neg b1.2, if_neg b1.1]
      by_cases c7 : nI i = nm
      · rw [if_pos c7, if_pos c7]
        by_cases c8 : nI f = 8
        · rw [if_pos c8, show z01 1 = true from by decide, gd_t]
          exact badE _ _ _ _ (fr_fi F1 (by decide)) K1 (by rw [fi_at]; decide) b1.2
        · rw [if_neg c8]
          obtain ⟨v2, s2, e2, F2, rfl⟩ := tac (s := 3) (x := v1) S1 (by decide)
          have b2 : ¬ s2.1.1 51 3 = 0 := by rw [fr_i F2 (by decide)]; exact b1.1
          rw [show g_Se_textAt 3 v1 s1 = _ from e2, bd_t, if_neg b2, show z01 1 = true from by decide, gd_t]
          exact badE _ _ _ _ (fr_fi (fr_tr F1 (fr_up F2 (by decide) (fun _ h => h))) (by decide)) K1 (by rw [fi_at]; decide) b1.2
      · rw [if_neg c7, if_neg c7]
        exact badE s1 t1 _ _ F1 K1 b1.1 b1.2
