/-! what is written behind a place only -/
def NR (A : List (Nat × Nat)) (σ s : am_S) : Prop := ∀ k j, (∀ L, (k, L) ∈ A → j < L) → s.2.1 k j = σ.2.1 k j ∧ s.2.2 k j = σ.2.2 k j
theorem NR_rf {A : List (Nat × Nat)} {σ : am_S} : NR A σ σ := fun _ _ _ => ⟨rfl, rfl⟩
theorem NR_tr {A : List (Nat × Nat)} {σ s u : am_S} (h : NR A σ s) (h' : NR A s u) : NR A σ u := fun k j q => ⟨(h' k j q).1.trans (h k j q).1, (h' k j q).2.trans (h k j q).2⟩
theorem NR_e {A : List (Nat × Nat)} {σ s u : am_S} (h : NR A σ s) (e : u.2 = s.2) : NR A σ u := fun k j q => by rw [e]; exact h k j q
theorem NR_fr {A : List (Nat × Nat)} {W : List (Nat × Nat)} {σ s u : am_S} (h : NR A σ s) (f : FR W [] s u) : NR A σ u := NR_tr h (fun k j _ => by rw [(f.2 k (by simp)).1, (f.2 k (by simp)).2]; exact ⟨rfl, rfl⟩)
theorem NR_ai {A : List (Nat × Nat)} {σ s : am_S} {k j L : Nat} {v : Int32} (h : NR A σ s) (m : (k, L) ∈ A) (hj : L ≤ j) : NR A σ (am_ai s k j v) := NR_tr h (fun k' j' q => by
  refine ⟨ai_no ?_, rfl⟩
  by_cases c : k' = k
  · subst c
    exact Or.inr (by have := q L m; omega)
  · exact Or.inl c)
theorem NR_al {A : List (Nat × Nat)} {σ s : am_S} {k j L : Nat} {v : Int64} (h : NR A σ s) (m : (k, L) ∈ A) (hj : L ≤ j) : NR A σ (am_al s k j v) := NR_tr h (fun k' j' q => by
  refine ⟨rfl, al_no ?_⟩
  by_cases c : k' = k
  · subst c
    exact Or.inr (by have := q L m; omega)
  · exact Or.inl c)
theorem NR_wk {A A' : List (Nat × Nat)} {σ s : am_S} (h : NR A σ s) (w : ∀ k L, (k, L) ∈ A → ∃ L', (k, L') ∈ A' ∧ L' ≤ L) : NR A' σ s := fun k j q => h k j (fun L m => by
  obtain ⟨L', m', hl⟩ := w k L m
  have := q L' m'
  omega)
theorem NR_i {A : List (Nat × Nat)} {σ s : am_S} (h : NR A σ s) {k j : Nat} (q : ∀ L, (k, L) ∈ A → j < L) : s.2.1 k j = σ.2.1 k j := (h k j q).1
theorem NR_l {A : List (Nat × Nat)} {σ s : am_S} (h : NR A σ s) {k j : Nat} (q : ∀ L, (k, L) ∈ A → j < L) : s.2.2 k j = σ.2.2 k j := (h k j q).2
theorem i10 : ¬ (1 : Int32) = 0 := by decide
/-! abbreviations -/
def AT (σ τ : am_S) (j : Nat) : Prop := σ.2.2 27 j = τ.2.2 8 j ∧ σ.2.2 29 j = τ.2.2 9 j ∧ ∃ f, f ∈ FMS ∧ σ.2.1 28 j = nI f ∧ τ.2.1 12 j = nI f
def AB1 (σ τ : am_S) (a : Nat) : Prop := σ.2.2 23 a = τ.2.2 6 a ∧ σ.2.2 24 a = τ.2.2 7 a ∧ σ.2.1 25 a = τ.2.1 10 a ∧ ∃ m, m ≤ 12 ∧ σ.2.1 26 a = nI m ∧ τ.2.1 11 a = nI m ∧ ∀ i, i < m → AT σ τ (12 * a + i)
def AC (a : Nat) : List (Nat × Nat) := [(23, a), (24, a), (25, a), (26, a), (27, 12 * a), (28, 12 * a), (29, 12 * a)]
def AM (a : Nat) : List (Nat × Nat) := [(6, a), (7, a), (10, a), (11, a), (8, 12 * a), (9, 12 * a), (12, 12 * a)]
theorem AT_up {A A' : List (Nat × Nat)} {σ τ s t : am_S} {j : Nat} (h : AT σ τ j) (f : NR A σ s) (g : NR A' τ t) (n1 : ∀ L, (27, L) ∈ A → j < L) (n2 : ∀ L, (28, L) ∈ A → j < L) (n3 : ∀ L, (29, L) ∈ A → j < L) (m1 : ∀ L, (8, L) ∈ A' → j < L) (m2 : ∀ L, (9, L) ∈ A' → j < L) (m3 : ∀ L, (12, L) ∈ A' → j < L) : AT s t j := by
  unfold AT
  rw [NR_l f n1, NR_l f n3, NR_i f n2, NR_l g m1, NR_l g m2, NR_i g m3]
  exact h
theorem AB1_up {a a' : Nat} {σ τ s t : am_S} (h : AB1 σ τ a') (ha : a' < a) (f : NR (AC a) σ s) (g : NR (AM a) τ t) : AB1 s t a' := by
  obtain ⟨h1, h2, h3, m, hm, h4, h5, h6⟩ := h
  refine ⟨?_, ?_, ?_, m, hm, ?_, ?_, fun i hi => ?_⟩
  · rw [NR_l f (by simp [AC]; omega), NR_l g (by simp [AM]; omega)]; exact h1
  · rw [NR_l f (by simp [AC]; omega), NR_l g (by simp [AM]; omega)]; exact h2
  · rw [NR_i f (by simp [AC]; omega), NR_i g (by simp [AM]; omega)]; exact h3
  · rw [NR_i f (by simp [AC]; omega)]; exact h4
  · rw [NR_i g (by simp [AM]; omega)]; exact h5
  · exact AT_up (h6 i hi) f g (by simp [AC]; omega) (by simp [AC]; omega) (by simp [AC]; omega) (by simp [AM]; omega) (by simp [AM]; omega) (by simp [AM]; omega)
theorem wn_l {x : Int64} {n : Nat} {σ τ : am_S} (hn : n ≤ 40) (h7 : σ.1.1 22 7 = nI n) (h13 : τ.1.1 0 13 = nI n) (hA : ∀ a, a < n → σ.2.2 23 a = τ.2.2 6 a) : ∀ j i, i + j = n → ∀ m m', j < m → j < m' → R2 (g_Ab_withNumber_2 m x (nI i) σ) (g_Mo_abbreviation_2 m' x (nI i) τ) (fun v s w t => s = σ ∧ t = τ ∧ v = w ∧ (v = -1 ∨ ∃ a, a < n ∧ v = nI a)) := by
  intro j
  induction j with
  | zero =>
    intro i hi m m' hm hm'
    obtain ⟨m, rfl⟩ : ∃ z, m = z + 1 := ⟨m - 1, by omega⟩
    obtain ⟨m', rfl⟩ : ∃ z, m' = z + 1 := ⟨m' - 1, by omega⟩
    rw [g_Ab_withNumber_2, g_Mo_abbreviation_2, h7, h13, if_neg (nI_nlt (by omega) (by omega)), if_neg (nI_nlt (by omega) (by omega))]
    exact R2_p ⟨rfl, rfl, rfl, Or.inl rfl⟩
  | succ j ih =>
    intro i hi m m' hm hm'
    obtain ⟨m, rfl⟩ : ∃ z, m = z + 1 := ⟨m - 1, by omega⟩
    obtain ⟨m', rfl⟩ : ∃ z, m' = z + 1 := ⟨m' - 1, by omega⟩
    rw [g_Ab_withNumber_2, g_Mo_abbreviation_2, h7, h13, if_pos (nI_lt (by omega) (by omega)), if_pos (nI_lt (by omega) (by omega)), inb_nI (by omega) (by decide), gd_t, gd_t, nI_clamp (by omega), hA i (by omega)]
    by_cases c : lg_cmp (τ.2.2 6 i) x = 0
    · rw [if_pos c, if_pos c]
      exact R2_p ⟨rfl, rfl, rfl, Or.inr ⟨i, by omega, rfl⟩⟩
    · rw [if_neg c, if_neg c, show nI i + 1 = nI (i + 1) from nI_add i 1]
      exact ih (i + 1) (by omega) m m' (by omega) (by omega)
theorem wn {x : Int64} {n : Nat} {σ τ : am_S} (hn : n ≤ 40) (h7 : σ.1.1 22 7 = nI n) (h13 : τ.1.1 0 13 = nI n) (hA : ∀ a, a < n → σ.2.2 23 a = τ.2.2 6 a) : R2 (g_Ab_withNumber x σ) (g_Mo_abbreviation x τ) (fun v s w t => s = σ ∧ t = τ ∧ v = w ∧ (v = -1 ∨ ∃ a, a < n ∧ v = nI a)) := wn_l hn h7 h13 hA n 0 (by omega) 4000 4000 (by omega) (by omega)
/-! the attributes of one -/
theorem at_cb {n i : Nat} {σ : am_S} (h : ¬ σ.1.1 31 3 = 0) : R1 (g_Ab_readOne_31_57 (n + 1) (nI i) σ) (fun v _ => v = 0) := by
  rw [g_Ab_readOne_31_57]
  by_cases c : 12 < nI i
  · rw [if_pos c]
    exact R1_p rfl
  · rw [if_neg c]
    refine R1_b (R1ul h) (fun v s _ k => ?_)
    refine R1_b (R1ul k.2.1) (fun v s2 _ k2 => ?_)
    rw [if_neg k2.2.1]
    exact R1_p rfl
theorem at_m0 {n : Nat} {x1 : Int32} {τ : am_S} (h : ¬ τ.1.1 0 8 = 0) : g_Mo_readAttributes_9 (n + 1) x1 0 τ = some (0, τ) := by
  unfold g_Mo_readAttributes_9 g_Mo_readAttributes_162
  rw [if_pos rfl, if_neg h]
  rfl
theorem at_m1 {n : Nat} {x1 : Int32} {τ : am_S} (h : τ.1.1 0 8 = 0) : g_Mo_readAttributes_9 (n + 1) x1 0 τ = some (1, τ) := by
  unfold g_Mo_readAttributes_9 g_Mo_readAttributes_162
  rw [if_pos rfl, if_pos h]
  rfl
theorem at_mb {n : Nat} {x1 : Int32} {τ : am_S} (h : ¬ τ.1.1 0 8 = 0) : R1 (g_Mo_readAttributes_9 (n + 2) x1 1 τ) (fun v _ => v = 0) := by
  unfold g_Mo_readAttributes_9
  rw [if_neg (by decide)]
  refine R1_b (R1ml h) (fun v s _ k => ?_)
  obtain ⟨_, rfl⟩ := k
  refine R1_b (R1ml h) (fun v s _ k => ?_)
  obtain ⟨_, rfl⟩ := k
  rw [if_neg h]
  unfold g_Mo_readAttributes_50 g_Mo_readAttributes_51 g_Mo_readAttributes_77 g_Mo_readAttributes_147
  rw [if_pos rfl, if_pos rfl, at_m0 h]
  exact R1_p rfl
def AtP (a q : Nat) (σ τ : am_S) (x : Int32) (s : am_S) (y : Int32) (t : am_S) : Prop := (x = 0 ∧ y = 0) ∨ (x = 1 ∧ y = 1 ∧ (∃ p', RG 31 s t p' q) ∧ NR [(26, a), (27, 12 * a), (28, 12 * a), (29, 12 * a)] σ s ∧ NR [(11, a), (8, 12 * a), (9, 12 * a), (12, 12 * a)] τ t ∧ ∃ m, m ≤ 12 ∧ s.2.1 26 a = nI m ∧ t.2.1 11 a = nI m ∧ ∀ i, i < m → AT s t (12 * a + i))
def AtS (a q i : Nat) : Prop := ∀ (σ τ : am_S) (p : Nat), RG 31 σ τ p q → σ.1.1 22 7 = nI a → τ.2.1 11 a = nI i → (∀ m, m < i → AT σ τ (12 * a + m)) → ∀ n n', 12 - i < n → 13 - i < n' → R2 (g_Ab_readOne_31_57 n (nI i) σ) (g_Mo_readAttributes_9 n' (nI a) 1 τ) (AtP a q σ τ)
theorem at_s {a q i : Nat} (ha : a < 40) (hi : i ≤ 12) (ih : i < 12 → AtS a q (i + 1)) : AtS a q i := by
  intro σ τ p hG h7 h11 hT n n' hn hn'
  obtain ⟨n, rfl⟩ : ∃ z, n = z + 1 := ⟨n - 1, by omega⟩
  obtain ⟨n', rfl⟩ : ∃ z, n' = z + 2 := ⟨n' - 2, by omega⟩
  rw [g_Ab_readOne_31_57, g_Mo_readAttributes_9, if_neg (show ¬ 12 < nI i from nI_nlt (a := 12) (by omega) (by omega)), if_neg i10]
  refine R2_b (xul hG) (fun v1 s1 w1 t1 _ _ k1 => ?_)
  obtain ⟨f1, g1, k1⟩ := k1
  rcases k1 with ⟨p1, _, _, G1, rfl⟩ | ⟨b1, _⟩
  · refine R2_b (xul G1) (fun v2 s2 w2 t2 _ _ k2 => ?_)
    obtain ⟨f2, g2, k2⟩ := k2
    rcases k2 with ⟨p2, _, _, G2, rfl⟩ | ⟨b2, _⟩
    · rw [if_pos (RG_3 G2), if_pos (RG_8 G2)]
      have F2 := fr_tr f1 f2
      have K2 := fr_tr g1 g2
      have h7' : s2.1.1 22 7 = nI a := (fr_i F2 (by decide)).trans h7
      have h11' : t2.2.1 11 a = nI i := by rw [fr_b K2 (by decide)]; exact h11
      have N0 : NR [(27, 12 * a + i), (28, 12 * a + i), (29, 12 * a + i)] σ s2 := NR_fr NR_rf F2
      have M0 : NR [(11, a), (8, 12 * a + i), (9, 12 * a + i), (12, 12 * a + i)] τ t2 := NR_fr NR_rf K2
      have more : R2 (g_Ab_readOne_31_112 (g_Ab_readOne_31_57 n) (nI i) v1 v2 s2) (g_Mo_readAttributes_46 (g_Mo_readAttributes_9 (n' + 1)) (nI a) v1 v2 t2) (AtP a q σ τ) := by
        unfold g_Ab_readOne_31_112 g_Mo_readAttributes_46 g_Mo_readAttributes_51 g_Ab_readOne_31_127 g_Mo_readAttributes_75
        rw [if_neg i10, inb_nI ha (by decide), gd_t, nI_clamp (by omega), h11']
        by_cases c12 : i = 12
        · rw [if_pos (show nI i = 12 from c12 ▸ rfl), if_pos (show nI i = 12 from c12 ▸ rfl)]
          exact R2_p (Or.inl ⟨rfl, rfl⟩)
        · have ne : ¬ nI i = 12 := fun z => c12 ((nI_eq (b := 12) (by omega) (by omega)).mp z)
          rw [if_neg ne, if_neg ne]
          refine R2_l fm_c (fun v3 s3 _ k3 => ?_)
          refine R2_r fm_m (fun w3 t3 _ k4 => ?_)
          obtain ⟨rfl, k3⟩ := k3
          obtain ⟨rfl, k4⟩ := k4
          rcases k3 with ⟨rfl, k3⟩ | ⟨rfl, k3⟩
          · rcases k4 with ⟨rfl, k4⟩ | ⟨rfl, k4⟩
            · obtain ⟨f, hf, rfl⟩ := fm_in k3
              have hfl := FMS_lt f hf
              rw [if_neg i10, if_neg i10, h7', show nI a * 12 = nI (12 * a) from (pk_mul a 12).trans (by rw [Nat.mul_comm]), nI_add, inb_nI (by omega) (by decide), gd_t, gd_t, nI_clamp (by omega), lN_i]
              unfold g_Mo_readAttributes_77 g_Mo_readAttributes_136 g_Mo_readAttributes_147 g_Ab_readOne_31_183
              rw [if_neg i10, inb_nI ha (by decide), gd_t, nI_clamp (n := a) (by omega), h11', show (12 : Int32) * nI a = nI (12 * a) from pk_mul 12 a, nI_add, inb_nI (n := 12 * a + i) (by omega) (by decide), gd_t, gd_t, nI_clamp (n := 12 * a + i) (by omega), lN_i]
              have fin : ∀ (s t : am_S) (w : Int64), FR [(31, 1), (31, 3)] [] (am_ai (am_al s3 27 (12 * a + i) v1) 28 (12 * a + i) (nI f)) s → FR [(0, 6), (0, 8)] [] (am_ai (am_al t3 8 (12 * a + i) v1) 12 (12 * a + i) (nI f)) t → (∃ p', RG 31 s t p' q) → R2 (am_gd true (g_Ab_readOne_31_57 n (nI i + 1) (am_al s 29 (12 * a + i) w))) (am_gd true (am_gd true (am_gd true (g_Mo_readAttributes_9 (n' + 1) (nI a) 1 (am_ai (am_al t 9 (12 * a + i) w) 11 a ((am_al t 9 (12 * a + i) w).2.1 11 a + 1)))))) (AtP a q σ τ) := by
                intro s t w fs ft hg
                obtain ⟨p', G⟩ := hg
                have e11 : (am_al t 9 (12 * a + i) w).2.1 11 a = nI i := by
                  rw [al_i, fr_b ft (by decide), ai_r (by decide), al_i]
                  exact h11'
                rw [gd_t, gd_t, gd_t, gd_t, e11, show nI i + 1 = nI (i + 1) from nI_add i 1]
                have N1 : NR [(27, 12 * a + i), (28, 12 * a + i), (29, 12 * a + i)] σ (am_al s 29 (12 * a + i) w) := NR_al (NR_fr (NR_ai (NR_al N0 (by simp) (Nat.le_refl _)) (by simp) (Nat.le_refl _)) fs) (by simp) (Nat.le_refl _)
                have M1 : NR [(11, a), (8, 12 * a + i), (9, 12 * a + i), (12, 12 * a + i)] τ (am_ai (am_al t 9 (12 * a + i) w) 11 a (nI (i + 1))) := NR_ai (NR_al (NR_fr (NR_ai (NR_al M0 (by simp) (Nat.le_refl _)) (by simp) (Nat.le_refl _)) ft) (by simp) (Nat.le_refl _)) (by simp) (Nat.le_refl _)
                have hI := ih (by omega) (am_al s 29 (12 * a + i) w) (am_ai (am_al t 9 (12 * a + i) w) 11 a (nI (i + 1))) p' ⟨G.1, G.2.1, by
                    show s.2.1 1 = _
                    rw [ai_r (by decide)]
                    exact G.2.2⟩ ((fr_i fs (by decide)).trans h7') ai_at (fun m hm => ?_) n (n' + 1) (by omega) (by omega)
                · refine R2_m hI (fun x s' y t' _ _ P => ?_)
                  rcases P with P | ⟨P1, P2, P3, P4, P5, P6⟩
                  · exact Or.inl P
                  · refine Or.inr ⟨P1, P2, P3, NR_tr (NR_wk N1 ?_) P4, NR_tr (NR_wk M1 ?_) P5, P6⟩
                    · intro k L h
                      simp at h
                      rcases h with ⟨rfl, rfl⟩ | ⟨rfl, rfl⟩ | ⟨rfl, rfl⟩ <;> exact ⟨12 * a, by simp, by omega⟩
                    · intro k L h
                      simp at h
                      rcases h with ⟨rfl, rfl⟩ | ⟨rfl, rfl⟩ | ⟨rfl, rfl⟩ | ⟨rfl, rfl⟩
                      · exact ⟨_, List.mem_cons_self, Nat.le_refl _⟩
                      · exact ⟨12 * a, by simp, by omega⟩
                      · exact ⟨12 * a, by simp, by omega⟩
                      · exact ⟨12 * a, by simp, by omega⟩
                · by_cases c : m = i
                  · subst c
                    refine ⟨?_, ?_, f, hf, ?_, ?_⟩
                    · rw [al_no (Or.inl (by decide)), ai_l, al_no (Or.inl (by decide)), fr_c fs (by decide), fr_c ft (by decide), ai_l, ai_l, al_at, al_at]
                    · rw [al_at, ai_l, al_at]
                    · rw [al_i, fr_b fs (by decide), ai_at]
                    · rw [ai_r (by decide), al_i, fr_b ft (by decide), ai_at]
                  · exact AT_up (hT m (by omega)) N1 M1 (by simp; omega) (by simp; omega) (by simp; omega) (by simp; omega) (by simp; omega) (by simp; omega)
              have hG2 : RG 31 (am_ai (am_al s3 27 (12 * a + i) v1) 28 (12 * a + i) (nI f)) (am_ai (am_al t3 8 (12 * a + i) v1) 12 (12 * a + i) (nI f)) p2 q := ⟨G2.1, G2.2.1, by rw [ai_r (by decide), ai_r (by decide)]; exact G2.2.2⟩
              by_cases c33 : lg_cmp (lN f) 33 = 0
              · rw [if_pos c33, if_pos c33]
                refine R2_b (xsl hG2) (fun v5 s5 w5 t5 _ _ k5 => ?_)
                obtain ⟨f5, g5, k5⟩ := k5
                rcases k5 with ⟨p5, _, _, G5, rfl⟩ | ⟨b5, _⟩
                · exact fin s5 t5 v5 f5 g5 ⟨p5, G5⟩
                · rw [gd_t, gd_t, gd_t, gd_t]
                  obtain ⟨n, rfl⟩ : ∃ z, n = z + 1 := ⟨n - 1, by omega⟩
                  obtain ⟨n', rfl⟩ : ∃ z, n' = z + 1 := ⟨n' - 1, by omega⟩
                  rw [show nI i + 1 = nI (i + 1) from nI_add i 1]
                  exact R2_of (at_cb (σ := am_al s5 29 (12 * a + i) v5) b5.1) (at_mb (τ := am_ai (am_al t5 9 (12 * a + i) w5) 11 a ((am_al t5 9 (12 * a + i) w5).2.1 11 a + 1)) b5.2) (fun _ _ _ _ _ _ h1 h2 => Or.inl ⟨h1, h2⟩)
              · rw [if_neg c33, if_neg c33]
                exact fin _ _ 0 fr_rf fr_rf ⟨p2, hG2⟩
            · exact absurd k3 k4
          · rcases k4 with ⟨rfl, k4⟩ | ⟨rfl, k4⟩
            · exact absurd k4 k3
            · rw [if_pos rfl, if_pos rfl]
              exact R2_p (Or.inl ⟨rfl, rfl⟩)
      by_cases z1 : lg_cmp v1 0 = 0
      · rw [if_pos z1, if_pos z1]
        by_cases z2 : lg_cmp v2 0 = 0
        · rw [if_pos z2, if_pos z2, h7', inb_nI ha (by decide), gd_t, nI_clamp (by omega)]
          unfold g_Mo_readAttributes_50 g_Mo_readAttributes_51 g_Mo_readAttributes_77 g_Mo_readAttributes_147
          rw [if_pos rfl, if_pos rfl, at_m1 (RG_8 G2)]
          refine R2_p (Or.inr ⟨rfl, rfl, ⟨p2, G2.1, G2.2.1, by rw [ai_r (by decide)]; exact G2.2.2⟩, NR_ai (NR_fr NR_rf F2) (by simp) (Nat.le_refl _), NR_fr NR_rf K2, i, hi, ai_at, h11', fun m hm => ?_⟩)
          have N1 : NR [(26, a)] σ (am_ai s2 26 a (nI i)) := NR_ai (NR_fr NR_rf F2) (by simp) (Nat.le_refl _)
          exact AT_up (hT m hm) N1 (NR_fr (A := []) NR_rf K2) (by simp) (by simp) (by simp) (by simp) (by simp) (by simp)
        · rw [if_neg z2, if_neg z2]
          exact more
      · rw [if_neg z1, if_neg z1]
        exact more
    · rw [if_neg b2.1, if_neg b2.2]
      unfold g_Mo_readAttributes_50 g_Mo_readAttributes_51 g_Mo_readAttributes_77 g_Mo_readAttributes_147
      rw [if_pos rfl, if_pos rfl, at_m0 b2.2]
      exact R2_p (Or.inl ⟨rfl, rfl⟩)
  · refine R2_l (R1ul b1.1) (fun v2 s2 _ k2 => ?_)
    refine R2_r (R1ml b1.2) (fun w2 t2 _ k3 => ?_)
    obtain ⟨_, rfl⟩ := k3
    rw [if_neg k2.2.1, if_neg b1.2]
    unfold g_Mo_readAttributes_50 g_Mo_readAttributes_51 g_Mo_readAttributes_77 g_Mo_readAttributes_147
    rw [if_pos rfl, if_pos rfl, at_m0 b1.2]
    exact R2_p (Or.inl ⟨rfl, rfl⟩)
theorem at_l {a q : Nat} (ha : a < 40) : ∀ j i, i + j = 12 → AtS a q i := by
  intro j
  induction j with
  | zero => exact fun i hi => at_s ha (by omega) (fun z => by omega)
  | succ j ih => exact fun i hi => at_s ha (by omega) (fun _ => ih (i + 1) (by omega))
