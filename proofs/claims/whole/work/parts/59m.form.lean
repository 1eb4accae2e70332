/-! the line program, both sides -/
def PW : List (Nat × Nat) := [(0, 38), (0, 47), (0, 48), (0, 49), (0, 6), (0, 8)]
def LQ4 (τ0 : am_S) (w0 : Nat) (x : Int32) (s : am_S) (y : Int32) (t : am_S) : Prop := (x = 0 ∧ y = 0) ∨ (x = 1 ∧ y = 1 ∧ (∃ w, w0 ≤ w ∧ RW s t w) ∧ FR PW [27, 30, 31, 32] τ0 t)
theorem pg_0 {n : Nat} {τ : am_S} : g_Mo_readLines_357 (n + 1) 0 τ = some (0, τ) := by
  unfold g_Mo_readLines_357 g_Mo_readLines_392 g_Mo_readLines_408 g_Mo_readLines_409
  rw [if_pos rfl, if_pos rfl]
  rfl
theorem pg_b {n : Nat} {x : Int32} {σ : am_S} (h : ¬ σ.1.1 51 3 = 0) : g_Li_readProgram_6 (n + 1) x σ = some (0, σ) := by
  unfold g_Li_readProgram_6 g_Li_readProgram_93 g_Li_readProgram_108
  rw [if_neg h, if_neg h]
  simp only [ite_self]
  rfl
theorem pg_l {q lr fc op w0 : Nat} {τ0 : am_S} : ∀ R p, q - p ≤ R → ∀ (σ τ : am_S) (w i : Nat), PS σ τ p q w lr fc op → w0 ≤ w → FR PW [27, 30, 31, 32] τ0 τ → i ≤ p → ∀ n n', R + 1 < n → R + 1 < n' → R2 (g_Li_readProgram_6 n (nI i) σ) (g_Mo_readLines_357 n' 1 τ) (LQ4 τ0 w0) := by
  intro R
  induction R with
  | zero =>
    intro p hp σ τ w i h hw0 k0 hi n n' hn hn'
    obtain ⟨n, rfl⟩ : ∃ z, n = z + 1 := ⟨n - 1, by omega⟩
    obtain ⟨n', rfl⟩ : ∃ z, n' = z + 1 := ⟨n' - 1, by omega⟩
    have hq := RG_q h.1
    unfold g_Li_readProgram_6 g_Li_readProgram_93 g_Li_readProgram_108 g_Mo_readLines_357 g_Mo_readLines_392 g_Mo_readLines_409
    rw [if_neg (show ¬ σ.1.1 51 1 < σ.1.1 51 2 by rw [h.1.1.1, h.1.1.2.1]; exact nI_nlt (by omega) (by omega)), if_pos (RG_3 h.1), if_neg i10, if_neg (show ¬ τ.1.1 0 6 < τ.1.1 0 7 by rw [h.1.2.1.1, h.1.2.1.2.1]; exact nI_nlt (by omega) (by omega)), if_neg i10, if_pos (RG_8 h.1)]
    simp only [ite_self]
    exact R2_p (Or.inr ⟨rfl, rfl, ⟨w, hw0, h.2.1⟩, k0⟩)
  | succ R ih =>
    intro p hp σ τ w i h hw0 k0 hi n n' hn hn'
    obtain ⟨n, rfl⟩ : ∃ z, n = z + 2 := ⟨n - 2, by omega⟩
    obtain ⟨n', rfl⟩ : ∃ z, n' = z + 2 := ⟨n' - 2, by omega⟩
    have hq := RG_q h.1
    by_cases cp : p = q
    · unfold g_Li_readProgram_6 g_Li_readProgram_93 g_Li_readProgram_108 g_Mo_readLines_357 g_Mo_readLines_392 g_Mo_readLines_409
      rw [if_neg (show ¬ σ.1.1 51 1 < σ.1.1 51 2 by rw [h.1.1.1, h.1.1.2.1]; exact nI_nlt (by omega) (by omega)), if_pos (RG_3 h.1), if_neg i10, if_neg (show ¬ τ.1.1 0 6 < τ.1.1 0 7 by rw [h.1.2.1.1, h.1.2.1.2.1]; exact nI_nlt (by omega) (by omega)), if_neg i10, if_pos (RG_8 h.1)]
      simp only [ite_self]
      exact R2_p (Or.inr ⟨rfl, rfl, ⟨w, hw0, h.2.1⟩, k0⟩)
    · rw [g_Li_readProgram_6, g_Mo_readLines_357, if_pos (show nI i < 3000 from nI_lt (b := 3000) (by omega) (by omega)), if_pos (show σ.1.1 51 1 < σ.1.1 51 2 by rw [h.1.1.1, h.1.1.2.1]; exact nI_lt (by omega) (by omega)), if_pos (RG_3 h.1), if_neg i10, if_pos (show τ.1.1 0 6 < τ.1.1 0 7 by rw [h.1.2.1.1, h.1.2.1.2.1]; exact nI_lt (by omega) (by omega))]
      obtain ⟨v1, s1, w1, t1, e1, e1', f1, g1, k1⟩ := xu (m := 1) h.1 (by omega) (by omega)
      rw [show g_Cu_number 51 1 σ = _ from e1, show g_Mo_u 1 τ = _ from e1', bd_t, bd_t]
      unfold g_Li_readProgram_87
      rw [show nI i + 1 = nI (i + 1) from nI_add i 1]
      rcases k1 with ⟨hq1, G1, rfl, rfl⟩ | ⟨b1, _, _⟩
      · have h1 := PS_cu h f1 g1 G1
        have hc := num_lt (σ.2.1 1) 1 p
        generalize num (σ.2.1 1) p 1 = c at *
        rw [lN_i]
        -- after the step
        have fin : ∀ (X : Option (Unit × am_S)), R2 X (g_Mo_code (nI c) t1) (fun _ s y t => SP (p + 1) q w lr fc op s y t) → R2 (am_bd X fun _ σ28 => g_Li_readProgram_6 (n + 1) (nI (i + 1)) σ28) (am_bd (g_Mo_code (nI c) t1) fun v15 σ15 => g_Mo_readLines_357 (n' + 1) v15 σ15) (LQ4 τ0 w0) := by
          intro X hX
          refine R2_b hX (fun _ s y t _ eM k => ?_)
          have K1 : FR PW [27, 30, 31, 32] τ0 t := fr_tr k0 (fr_tr (fr_up g1 (by decide) (fun _ h => by cases h)) (fr_up (f_Mo_code eM) (by decide) (by decide)))
          rcases k with ⟨rfl, p', w', hp', hw', k⟩ | ⟨rfl, k⟩
          · exact ih p' (by have := RG_q k.1; omega) s t w' (i + 1) k (by omega) K1 (by omega) (n + 1) (n' + 1) (by omega) (by omega)
          · rw [pg_b k, pg_0]
            exact R2_p (Or.inl ⟨rfl, rfl⟩)
        obtain ⟨a1, a2, a3, a4, a5, a6, a7, a8, a9, a10, a11, a12⟩ := h1.2.2.2
        by_cases cf : c < fc
        · rw [if_pos (show nI c < s1.1.1 49 10 by rw [a6]; exact nI_lt cf (by omega))]
          by_cases c0 : c = 0
          · rw [if_pos (show nI c = 0 from c0 ▸ rfl)]
            have hx : R2 (g_Li_extended s1) (g_Mo_code (nI c) t1) (fun _ s y t => SP (p + 1) q w lr fc op s y t) := by
              unfold g_Mo_code
              rw [a7, if_pos (nI_lt cf (by omega)), if_pos (show nI c = 0 from c0 ▸ rfl)]
              obtain ⟨_, s, y, t, e2, e3, P⟩ := ext_l h1
              rw [e2, e3, bd_t, SP_z P, gd_t]
              exact R2_p P
            exact fin _ hx
          · rw [if_neg (show ¬ nI c = 0 from fun z => c0 ((nI_eq (b := 0) (by omega) (by omega)).mp z))]
            exact fin _ (sta_l h1 (by omega) cf)
        · rw [if_neg (show ¬ nI c < s1.1.1 49 10 by rw [a6]; exact nI_nlt (by omega) (by omega))]
          exact fin _ (spe_l h1 (by omega) (by omega))
      · exfalso
        have e6 := gn_ok (m := 1) h.1.1 (by omega) (by omega)
        rw [show g_Cu_number 51 (nI 1) σ = _ from e1] at e6
        cases e6
        exact b1.1 (by rw [fi_no (Or.inl (by decide))]; exact RG_3 h.1)
/-! the forms of a table of names -/
def FS : List Nat := [8, 31, 11, 5, 15]
def FMt (σ τ : am_S) (n : Nat) (nm : Int32) : Prop := (∀ m, m < n → ∃ f, f ∈ FS ∧ σ.2.1 50 m = nI f ∧ τ.2.1 29 m = nI f) ∧ (nm = -1 ∨ ∃ k, k < n ∧ nm = nI k ∧ (σ.2.1 50 k = 8 ∨ σ.2.1 50 k = 31))
theorem mu_l {τ : am_S} {x : Int32} (hx : x = 0) (h : MU τ) : R1 (g_Mo_leb x τ) (fun _ t => MU t) := by
  subst hx
  rcases h with ⟨p, q, h⟩ | h
  · cases hr : rdL (τ.2.1 2) q false 10 0 0 p with
    | some w =>
      obtain ⟨w, p'⟩ := w
      have hle := rdL_le hr
      exact ⟨_, _, ml_ok (sg := false) h hr, Or.inl ⟨_, _, RU_1' h hle.2⟩⟩
    | none =>
      obtain ⟨w, p2, _, _, e2⟩ := ml_bad (sg := false) h hr
      exact ⟨_, _, e2, Or.inr (by rw [fi_at]; decide)⟩
  · obtain ⟨w, e⟩ := bml (x := 0) h
    exact ⟨_, _, e, Or.inr h⟩
theorem FMt_up {σ τ s t : am_S} {i : Nat} {nm : Int32} (h : FMt σ τ i nm) (h1 : ∀ m, m < i → s.2.1 50 m = σ.2.1 50 m) (h2 : ∀ m, m < i → t.2.1 29 m = τ.2.1 29 m) : FMt s t i nm := by
  obtain ⟨a, b⟩ := h
  refine ⟨fun m hm => ?_, b.imp id (fun ⟨k, hk, e, f⟩ => ⟨k, hk, e, by rw [h1 k hk]; exact f⟩)⟩
  rw [h1 m hm, h2 m hm]
  exact a m hm
def WP (σ τ : am_S) (n p q : Nat) (x : Int32) (s : am_S) (y : Int32) (t : am_S) : Prop := FR [(49, 6), (49, 7), (51, 1), (51, 3)] [50] σ s ∧ FR [(0, 6), (0, 8)] [29] τ t ∧ ((x = 0 ∧ y = -2 ∧ MU t) ∨ (x = 1 ∧ s.1.1 49 7 = y ∧ ¬ y = -2 ∧ s.1.1 49 6 = nI n ∧ FMt s t n y ∧ ∃ p', p ≤ p' ∧ RG 51 s t p' q))
theorem nm2 {n k : Nat} (hk : k < 2 ^ 31) (_ : k < n) : ¬ nI k = -2 := fun z => absurd (z ▸ nI_pos hk) (by decide)
theorem wf_l {n q p0 : Nat} (hn6 : n ≤ 6) {σ0 τ0 : am_S} : ∀ j i, i + j = n → ∀ (σ τ : am_S) (p : Nat) (nm : Int32), p0 ≤ p → RG 51 σ τ p q → FR [(49, 6), (49, 7), (51, 1), (51, 3)] [50] σ0 σ → FR [(0, 6), (0, 8)] [29] τ0 τ → σ.1.1 49 6 = nI n → σ.1.1 49 7 = nm → FMt σ τ i nm → ∀ N N', j < N → j < N' → R2 (g_Li_readForms_41 N (nI i) σ) (g_Mo_readWhats_4 N' (nI n) nm (nI i) τ) (WP σ0 τ0 n p0 q) := by
  intro j
  induction j with
  | zero =>
    intro i hi σ τ p nm hp hG f0 g0 h6 h7 hF N N' hN hN'
    obtain ⟨N, rfl⟩ : ∃ z, N = z + 1 := ⟨N - 1, by omega⟩
    obtain ⟨N', rfl⟩ : ∃ z, N' = z + 1 := ⟨N' - 1, by omega⟩
    obtain rfl : i = n := by omega
    rw [g_Li_readForms_41, g_Mo_readWhats_4, h6, if_neg (nI_nlt (by omega) (by omega)), if_neg (nI_nlt (by omega) (by omega))]
    refine R2_p ⟨f0, g0, Or.inr ⟨rfl, h7, ?_, h6, hF, p, hp, hG⟩⟩
    rcases hF.2 with e | ⟨k, hk, e, _⟩
    · rw [e]; decide
    · rw [e]; exact nm2 (by omega) hk
  | succ j ih =>
    intro i hi σ τ p nm hp hG f0 g0 h6 h7 hF N N' hN hN'
    obtain ⟨N, rfl⟩ : ∃ z, N = z + 1 := ⟨N - 1, by omega⟩
    obtain ⟨N', rfl⟩ : ∃ z, N' = z + 1 := ⟨N' - 1, by omega⟩
    rw [g_Li_readForms_41, g_Mo_readWhats_4, h6, if_pos (nI_lt (by omega) (by omega)), if_pos (nI_lt (by omega) (by omega))]
    obtain ⟨v1, s1, w1, t1, e1, e1', f1, g1, k1⟩ := xul hG
    rw [e1, e1', bd_t, bd_t]
    have bad : ∀ (s2 t2 : am_S) (v2 v1' : Int64), FR [(49, 6), (49, 7), (51, 1), (51, 3)] [50] σ0 s2 → FR [(0, 6), (0, 8)] [29] τ0 t2 → ¬ s2.1.1 51 3 = 0 → ¬ t2.1.1 0 8 = 0 → R2 (if lg_cmp v2 8 = 0 then g_Li_readForms_84 (g_Li_readForms_41 N) (nI i) v1' v2 s2 else if lg_cmp v2 31 = 0 then g_Li_readForms_84 (g_Li_readForms_41 N) (nI i) v1' v2 s2 else g_Li_readForms_89 (g_Li_readForms_41 N) (nI i) v1' v2 0 s2) (g_Mo_readWhats_105 t2) (WP σ0 τ0 n p0 q) := by
      intro s2 t2 v2 v1' F2 K2 b1 b2
      unfold g_Li_readForms_84 g_Li_readForms_89 g_Li_readForms_109 g_Li_readForms_110 g_Li_readForms_132 g_Mo_readWhats_105
      rw [if_neg b1]
      simp only [ite_self, if_neg b1]
      exact R2_p ⟨F2, K2, Or.inl ⟨rfl, rfl, Or.inr b2⟩⟩
    rcases k1 with ⟨p1, _, _, G1, rfl⟩ | ⟨b1, _⟩
    · obtain ⟨v2, s2, w2, t2, e2, e2', f2, g2, k2⟩ := xul G1
      rw [e2, e2', bd_t, bd_t]
      have F2 : FR [(49, 6), (49, 7), (51, 1), (51, 3)] [50] σ0 s2 := fr_tr f0 (fr_tr (fr_up f1 (by decide) (fun _ h => by cases h)) (fr_up f2 (by decide) (fun _ h => by cases h)))
      have K2 : FR [(0, 6), (0, 8)] [29] τ0 t2 := fr_tr g0 (fr_tr (fr_up g1 (fun _ h => h) (fun _ h => by cases h)) (fr_up g2 (fun _ h => h) (fun _ h => by cases h)))
      rcases k2 with ⟨p2, _, _, G2, rfl⟩ | ⟨b2, _⟩
      · have s6 : s2.1.1 49 6 = nI n := (fr_i f2 (by decide)).trans ((fr_i f1 (by decide)).trans h6)
        have s7 : s2.1.1 49 7 = nm := (fr_i f2 (by decide)).trans ((fr_i f1 (by decide)).trans h7)
        have hF2 : FMt s2 t2 i nm := FMt_up hF (fun m _ => by rw [fr_b f2 (by decide), fr_b f1 (by decide)]) (fun m _ => by rw [fr_b g2 (by decide), fr_b g1 (by decide)])
        rw [if_pos (RG_8 G2)]
        -- a form that is taken
        have take : ∀ (f : Nat) (nm' : Int32), f ∈ FS → v2 = lN f → (nm' = nm ∨ (nm' = nI i ∧ (f = 8 ∨ f = 31))) → R2 (g_Li_readForms_41 N (nI (i + 1)) (am_fi (am_ai s2 50 i (nI f)) 49 7 nm')) (g_Mo_readWhats_4 N' (nI n) nm' (nI (i + 1)) (am_ai t2 29 i (nI f))) (WP σ0 τ0 n p0 q) := by
          intro f nm' hf _ hnm
          have fC : FR [(49, 6), (49, 7), (51, 1), (51, 3)] [50] s2 (am_fi (am_ai s2 50 i (nI f)) 49 7 nm') := fr_fi (fr_ai fr_rf (by simp)) (by simp)
          have fM : FR [(0, 6), (0, 8)] [29] t2 (am_ai t2 29 i (nI f)) := fr_ai fr_rf (by simp)
          refine ih (i + 1) (by omega) _ _ p2 nm' (by omega) ?_ (fr_tr F2 fC) (fr_tr K2 fM) ?_ fi_at ⟨fun m hm => ?_, ?_⟩ N N' (by omega) (by omega)
          · exact ⟨CU_o G2.1 (by decide), G2.2.1, by rw [fi_a, ai_r (by decide), ai_r (by decide)]; exact G2.2.2⟩
          · rw [fi_no (Or.inl (by decide))]; exact s6
          · rw [fi_a]
            by_cases cm : m = i
            · subst cm
              exact ⟨f, hf, ai_at, ai_at⟩
            · rw [ai_no (Or.inr cm), ai_no (Or.inr cm)]
              exact hF2.1 m (by omega)
          · rw [fi_a]
            rcases hnm with rfl | ⟨rfl, hf8⟩
            · rcases hF2.2 with e | ⟨k, hk, e, q⟩
              · exact Or.inl e
              · exact Or.inr ⟨k, by omega, e, by rw [ai_no (Or.inr (by omega))]; exact q⟩
            · refine Or.inr ⟨i, by omega, rfl, ?_⟩
              rw [ai_at]
              exact hf8.imp (fun z => by rw [z]; rfl) (fun z => by rw [z]; rfl)
        have b3 := RG_3 G2
        unfold g_Li_readForms_84 g_Li_readForms_89 g_Li_readForms_109 g_Li_readForms_110 g_Li_readForms_132 g_Li_readForms_134 g_Li_readForms_168 g_Li_readForms_191 g_Mo_readWhats_75 g_Mo_readWhats_105 g_Mo_readWhats_108 g_Mo_readWhats_133 g_Mo_readWhats_134
        rw [inb_nI (show i < 6 by omega) (by decide), nI_clamp (show i < 2 ^ 31 by omega), show nI i + 1 = nI (i + 1) from nI_add i 1, s7]
        simp only [gd_t, b3, s7, if_true, ai_f]
        simp only [if_neg i10]
        have fail : R2 (some ((0 : Int32), s2)) (some ((-2 : Int32), t2)) (WP σ0 τ0 n p0 q) := R2_p ⟨F2, K2, Or.inl ⟨rfl, rfl, Or.inl ⟨p2, q, G2.2.1⟩⟩⟩
        by_cases c8 : lg_cmp v2 8 = 0
        · simp only [c8, if_true]
          have ev : v2 = lN 8 := (cmp_eq _ _).mp c8
          have ei : v2.toInt32 = nI 8 := by rw [ev, lN_i]
          simp only [ei]
          by_cases c1 : lg_cmp v1 1 = 0
          · simp only [c1, if_true]
            by_cases c2 : nm = -1
            · rw [if_pos c2, if_pos c2, if_pos c2]
              exact take 8 (nI i) (by decide) ev (Or.inr ⟨rfl, by decide⟩)
            · rw [if_neg c2, if_neg c2, if_neg c2]
              exact take 8 nm (by decide) ev (Or.inl rfl)
          · simp only [c1, if_false]
            exact take 8 nm (by decide) ev (Or.inl rfl)
        · simp only [c8, if_false]
          by_cases c31 : lg_cmp v2 31 = 0
          · simp only [c31, if_true]
            have ev : v2 = lN 31 := (cmp_eq _ _).mp c31
            have ei : v2.toInt32 = nI 31 := by rw [ev, lN_i]
            simp only [ei]
            by_cases c1 : lg_cmp v1 1 = 0
            · simp only [c1, if_true]
              by_cases c2 : nm = -1
              · rw [if_pos c2, if_pos c2, if_pos c2]
                exact take 31 (nI i) (by decide) ev (Or.inr ⟨rfl, by decide⟩)
              · rw [if_neg c2, if_neg c2, if_neg c2]
                exact take 31 nm (by decide) ev (Or.inl rfl)
            · simp only [c1, if_false]
              exact take 31 nm (by decide) ev (Or.inl rfl)
          · simp only [c31, if_false]
            by_cases c11 : lg_cmp v2 11 = 0
            · simp only [c11, if_true]
              have ev : v2 = lN 11 := (cmp_eq _ _).mp c11
              have ei : v2.toInt32 = nI 11 := by rw [ev, lN_i]
              simp only [ei]
              by_cases c1 : lg_cmp v1 1 = 0
              · simp only [c1, if_true]
                by_cases c2 : nm = -1
                · rw [if_pos c2, if_pos c2]
                  exact fail
                · rw [if_neg c2, if_neg c2, if_neg c2]
                  exact take 11 nm (by decide) ev (Or.inl rfl)
              · simp only [c1, if_false]
                exact take 11 nm (by decide) ev (Or.inl rfl)
            · simp only [c11, if_false]
              by_cases c5 : lg_cmp v2 5 = 0
              · simp only [c5, if_true]
                have ev : v2 = lN 5 := (cmp_eq _ _).mp c5
                have ei : v2.toInt32 = nI 5 := by rw [ev, lN_i]
                simp only [ei]
                by_cases c1 : lg_cmp v1 1 = 0
                · simp only [c1, if_true]
                  by_cases c2 : nm = -1
                  · rw [if_pos c2, if_pos c2]
                    exact fail
                  · rw [if_neg c2, if_neg c2, if_neg c2]
                    exact take 5 nm (by decide) ev (Or.inl rfl)
                · simp only [c1, if_false]
                  exact take 5 nm (by decide) ev (Or.inl rfl)
              · simp only [c5, if_false]
                by_cases c15 : lg_cmp v2 15 = 0
                · simp only [c15, if_true]
                  have ev : v2 = lN 15 := (cmp_eq _ _).mp c15
                  have ei : v2.toInt32 = nI 15 := by rw [ev, lN_i]
                  simp only [ei]
                  by_cases c1 : lg_cmp v1 1 = 0
                  · simp only [c1, if_true]
                    by_cases c2 : nm = -1
                    · rw [if_pos c2, if_pos c2]
                      exact fail
                    · rw [if_neg c2, if_neg c2, if_neg c2]
                      exact take 15 nm (by decide) ev (Or.inl rfl)
                  · simp only [c1, if_false]
                    exact take 15 nm (by decide) ev (Or.inl rfl)
                · simp only [c15, if_false]
                  simp only [ite_self]
                  exact fail
      · rw [if_neg b2.2]
        exact bad s2 t2 v2 v1 F2 K2 b2.1 b2.2
    · obtain ⟨v2, s2, e2, k2⟩ := R1ul b1.1
      obtain ⟨w2, t2, e2', k2', rfl⟩ := R1ml (x := 0) b1.2
      rw [e2, e2', bd_t, bd_t, if_neg b1.2]
      exact bad s2 t2 v2 v1 (fr_tr f0 (fr_tr (fr_up f1 (by decide) (fun _ h => by cases h)) (fr_up k2.2.2 (by decide) (fun _ h => by cases h)))) (fr_tr g0 (fr_up g1 (fun _ h => h) (fun _ h => by cases h))) k2.2.1 b1.2
