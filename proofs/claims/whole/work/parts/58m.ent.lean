/-! what an entry has, both sides -/
def FZ (v : Int32) : Prop := v = 0 ∨ ∃ f, f ∈ FMS ∧ v = nI f
def SL (σ τ : am_S) (i j : Nat) : Prop := σ.2.1 15 i = τ.2.1 20 j ∧ FZ (τ.2.1 20 j) ∧ (¬ τ.2.1 20 j = 0 → σ.2.2 16 i = τ.2.2 21 j) ∧ (τ.2.1 20 j = 8 → ∃ b, τ.2.2 21 j = lN b ∧ TX (σ.2.1 1) b)
def US (σ τ : am_S) (i j : Nat) : Prop := σ.2.1 19 i = τ.2.1 20 j ∧ FZ (τ.2.1 20 j) ∧ (¬ τ.2.1 20 j = 0 → σ.2.2 20 i = τ.2.2 21 j) ∧ (τ.2.1 20 j = 0 → σ.2.2 20 i = 0)
def FO (σ τ : am_S) (e u : Nat) : Prop := (LK (σ.2.2 11 e) → ∀ k, k < 7 → SL σ τ (7 * e + k) (11 * e + k)) ∧ (¬ LK (σ.2.2 11 e) → ∀ k, k < 7 → σ.2.1 15 (7 * e + k) = 0) ∧ (σ.2.2 11 e = 17 → ∀ k, k < 4 → US σ τ (4 * u + k) (11 * e + (7 + k)))
def KM (x : Int64) (f : Int32) (w : Int64) (e : Nat) (t1 t2 : am_S) : Prop := (∃ k, k < 11 ∧ x = lN (KN.getD k 0) ∧ t1.2.1 20 (11 * e + k) = 0 ∧ t2 = am_al (am_ai t1 20 (11 * e + k) f) 21 (11 * e + k) w) ∨ (t2 = t1 ∧ ∀ k, k < 11 → x = lN (KN.getD k 0) → ¬ t1.2.1 20 (11 * e + k) = 0)
theorem SL_up {σ τ s t : am_S} {i j : Nat} (h : SL σ τ i j) (h1 : s.2.1 15 i = σ.2.1 15 i) (h2 : s.2.2 16 i = σ.2.2 16 i) (h3 : t.2.1 20 j = τ.2.1 20 j) (h4 : t.2.2 21 j = τ.2.2 21 j) (h5 : s.2.1 1 = σ.2.1 1) : SL s t i j := by
  unfold SL
  rw [h1, h2, h3, h4, h5]
  exact h
theorem US_up {σ τ s t : am_S} {i j : Nat} (h : US σ τ i j) (h1 : s.2.1 19 i = σ.2.1 19 i) (h2 : s.2.2 20 i = σ.2.2 20 i) (h3 : t.2.1 20 j = τ.2.1 20 j) (h4 : t.2.2 21 j = τ.2.2 21 j) : US s t i j := by
  unfold US
  rw [h1, h2, h3, h4]
  exact h
theorem f0 {f : Nat} (hf : f ∈ FMS) : ¬ nI f = 0 := nI_ne0 (FMS_lt f hf).2 (by have := (FMS_lt f hf).1; omega)
theorem aa_i {σ : am_S} {k j k2 j2 a b : Nat} {v : Int32} {w : Int64} (h : a ≠ k ∨ b ≠ j) : (am_al (am_ai σ k j v) k2 j2 w).2.1 a b = σ.2.1 a b := ai_no h
theorem aa_l {σ : am_S} {k j k2 j2 a b : Nat} {v : Int32} {w : Int64} (h : a ≠ k2 ∨ b ≠ j2) : (am_al (am_ai σ k j v) k2 j2 w).2.2 a b = σ.2.2 a b := al_no (σ := am_ai σ k j v) h
theorem aa_r {σ : am_S} {k j k2 j2 a : Nat} {v : Int32} {w : Int64} (h : a ≠ k) : (am_al (am_ai σ k j v) k2 j2 w).2.1 a = σ.2.1 a := ai_r h
theorem FO_step {x v : Int64} {f e u : Nat} {s1 s2 t1 t2 : am_S} (h : FO s1 t1 e u) (hf : f ∈ FMS) (hx : f = 8 → ∃ b, v = lN b ∧ TX (s1.2.1 1) b) (hc : KP x (nI f) 0 v e u s1 s2) (hm : KM x (nI f) v e t1 t2) : FO s2 t2 e u := by
  obtain ⟨H1, H2, H3⟩ := h
  have hz := f0 hf
  have h8 : nI f = 8 → f = 8 := fun z => (nI_eq (b := 8) (by have := FMS_lt f hf; omega) (by omega)).mp z
  rcases hm with ⟨k, hk, ex, ek, rfl⟩ | ⟨rfl, hm⟩
  · rcases hc with ⟨k', hk', ex', hL, ec, rfl⟩ | ⟨k', hk', ex', hU, ec, rfl⟩ | ⟨rfl, n1, n2⟩
    · have := KN_eq (k := k) (k' := k') hk (by omega) ex ex'
      subst this
      refine ⟨fun _ m hm => ?_, fun z => absurd hL z, fun h17 m hm => ?_⟩
      · by_cases c : m = k
        · subst c
          refine ⟨?_, ?_, ?_, ?_⟩
          · rw [al_i, ai_at, al_i, ai_at]
          · rw [al_i, ai_at]; exact Or.inr ⟨f, hf, rfl⟩
          · intro _; rw [al_at, al_at]
          · intro q
            rw [al_i, ai_at] at q
            rw [al_at, al_i, ai_r (by decide)]
            exact hx (h8 q)
        · exact SL_up (H1 hL m hm) (aa_i (Or.inr (by omega))) (aa_l (Or.inr (by omega))) (aa_i (Or.inr (by omega))) (aa_l (Or.inr (by omega))) (aa_r (by decide))
      · exact US_up (H3 h17 m hm) (aa_i (Or.inl (by decide))) (aa_l (Or.inl (by decide))) (aa_i (Or.inr (by omega))) (aa_l (Or.inr (by omega)))
    · have := KN_eq (k := k) (k' := 7 + k') hk (by omega) ex ex'
      subst this
      refine ⟨fun hL m hm => ?_, fun z => absurd (Or.inl hU) z, fun h17 m hm => ?_⟩
      · exact SL_up (H1 hL m hm) (aa_i (Or.inl (by decide))) (aa_l (Or.inl (by decide))) (aa_i (Or.inr (by omega))) (aa_l (Or.inr (by omega))) (aa_r (by decide))
      · by_cases c : m = k'
        · subst c
          refine ⟨?_, ?_, ?_, ?_⟩
          · rw [al_i, ai_at, al_i, ai_at]
          · rw [al_i, ai_at]; exact Or.inr ⟨f, hf, rfl⟩
          · intro _; rw [al_at, al_at]
          · intro q
            rw [al_i, ai_at] at q
            exact absurd q hz
        · exact US_up (H3 h17 m hm) (aa_i (Or.inr (by omega))) (aa_l (Or.inr (by omega))) (aa_i (Or.inr (by omega))) (aa_l (Or.inr (by omega)))
    · by_cases ck : k < 7
      · have nL : ¬ LK (s2.2.2 11 e) := fun hL => n1 k ck ex hL ((H1 hL k ck).1.trans ek)
        exact ⟨fun z => absurd z nL, H2, fun z => absurd (Or.inl z) nL⟩
      · obtain ⟨k', rfl⟩ : ∃ k', k = 7 + k' := ⟨k - 7, by omega⟩
        have nU : ¬ s2.2.2 11 e = 17 := fun h17 => n2 k' (by omega) ex h17 ((H3 h17 k' (by omega)).1.trans ek)
        exact ⟨fun hL m hm => SL_up (H1 hL m hm) rfl rfl (aa_i (Or.inr (by omega))) (aa_l (Or.inr (by omega))) rfl, H2, fun z => absurd z nU⟩
  · rcases hc with ⟨k', hk', ex', hL, ec, rfl⟩ | ⟨k', hk', ex', hU, ec, rfl⟩ | ⟨rfl, n1, n2⟩
    · exact absurd ((H1 hL k' hk').1.symm.trans ec) (hm k' (by omega) ex')
    · exact absurd ((H3 hU k' hk').1.symm.trans ec) (hm (7 + k') (by omega) ex')
    · exact ⟨H1, H2, H3⟩
theorem KP_fr {x v : Int64} {f : Int32} {e u L : Nat} {s1 s2 : am_S} (h : KP x f 0 v e u s1 s2) (hL : s1.2.2 11 e = 17 → L ≤ 4 * u) : FR [] [15, 16, 19, 20] s1 s2 ∧ NR [(15, 7 * e), (16, 7 * e), (19, L), (20, L)] s1 s2 := by
  rcases h with ⟨k', hk', ex', hK, ec, rfl⟩ | ⟨k', hk', ex', hU, ec, rfl⟩ | ⟨rfl, n1, n2⟩
  · exact ⟨fr_al (fr_ai fr_rf (by simp)) (by simp), NR_al (NR_ai NR_rf (L := 7 * e) (by simp) (by omega)) (L := 7 * e) (by simp) (by omega)⟩
  · have := hL hU
    exact ⟨fr_al (fr_ai fr_rf (by simp)) (by simp), NR_al (NR_ai NR_rf (L := L) (by simp) (by omega)) (L := L) (by simp) (by omega)⟩
  · exact ⟨fr_rf, NR_rf⟩
theorem KM_fr {x w : Int64} {f : Int32} {e : Nat} {t1 t2 : am_S} (h : KM x f w e t1 t2) : FR [] [20, 21] t1 t2 ∧ NR [(20, 11 * e), (21, 11 * e)] t1 t2 := by
  rcases h with ⟨k, hk, ex, ek, rfl⟩ | ⟨rfl, hm⟩
  · exact ⟨fr_al (fr_ai fr_rf (by simp)) (by simp), NR_al (NR_ai NR_rf (L := 11 * e) (by simp) (by omega)) (L := 11 * e) (by simp) (by omega)⟩
  · exact ⟨fr_rf, NR_rf⟩
theorem st_m {go : Int32 → Int32 → Int32 → am_S → Option (Unit × am_S)} {Q : Unit → am_S → Prop} {x w : Int64} {f x2 : Int32} {e j : Nat} {t1 : am_S} (he : e < 200) (hj : j < 480) (h8 : t1.2.2 8 j = x) (h12 : t1.2.1 12 j = f) (hy : ∀ t2, KM x f w e t1 t2 → R1 (go x2 (nI e) (nI j + 1) t2) Q) : R1 (am_gd true <|
      am_bd (g_Mo_known (t1.2.2 8 j) t1) fun v29 σ29 =>
      if v29 = (-1) then
        g_Mo_readEntry_229 go x2 (nI e) (nI j) σ29
      else
        am_gd (inb ((11 * nI e) + v29) 2200) <|
        if (σ29.2.1 20 ((11 * nI e) + v29).toNatClampNeg) = 0 then
          am_gd true <|
          am_gd (inb ((11 * nI e) + v29) 2200) <|
          am_gd (inb ((11 * nI e) + v29) 2200) <|
          g_Mo_readEntry_229 go x2 (nI e) (nI j) (am_al (am_ai σ29 20 ((11 * nI e) + v29).toNatClampNeg (σ29.2.1 12 j)) 21 ((11 * nI e) + v29).toNatClampNeg w)
        else
          g_Mo_readEntry_229 go x2 (nI e) (nI j) σ29) Q := by
  unfold g_Mo_readEntry_229
  rw [gd_t, h8, show (11 : Int32) * nI e = nI (11 * e) from pk_mul 11 e]
  refine R1_b kn_m (fun v s _ k => ?_)
  obtain ⟨rfl, k⟩ := k
  rcases k with ⟨k, hk, rfl, ex⟩ | ⟨rfl, k⟩
  · rw [if_neg (nI_ne (by omega)), nI_add, inb_nI (by omega) (by decide), gd_t, gd_t, gd_t, gd_t, nI_clamp (by omega), h12]
    by_cases c : s.2.1 20 (11 * e + k) = 0
    · rw [if_pos c]
      exact hy _ (Or.inl ⟨k, hk, ex, c, rfl⟩)
    · rw [if_neg c]
      exact hy _ (Or.inr ⟨rfl, fun k' hk' ex' => by rw [← KN_eq hk hk' ex ex']; exact c⟩)
  · rw [if_pos rfl]
    exact hy _ (Or.inr ⟨rfl, fun k' hk' ex' => absurd ex' (k k' hk')⟩)
theorem ea_l {a m e u q L p0 : Nat} {Q : Int32 → am_S → Unit → am_S → Prop} {σ0 τ0 : am_S} (ha : a < 40) (hm : m ≤ 12) (he : e < 200) (hu : u < 4) (hL : σ0.2.2 11 e = 17 → L ≤ 4 * u) (h26 : σ0.2.1 26 a = nI m) (h11 : τ0.2.1 11 a = nI m) (hT : ∀ i, i < m → AT σ0 τ0 (12 * a + i)) (h10 : σ0.1.1 10 10 = nI (e + 1)) (h13 : σ0.2.1 13 e = nI u)
    (hy : ∀ s t p', FR [(30, 1), (30, 3)] [15, 16, 19, 20] σ0 s → FR [(0, 6), (0, 8)] [20, 21] τ0 t → NR [(15, 7 * e), (16, 7 * e), (19, L), (20, L)] σ0 s → NR [(20, 11 * e), (21, 11 * e)] τ0 t → p0 ≤ p' → RG 30 s t p' q → FO s t e u → R2 (g_Ur_readEntry_190 (nI a) s) (g_Mo_readEntry_235 t) Q) (hb : ∀ s t, FR [(30, 1), (30, 3)] [15, 16, 19, 20] σ0 s → FR [(0, 6), (0, 8)] [20, 21] τ0 t → BD 30 s t → R2 (g_Ur_readEntry_190 (nI a) s) (g_Mo_readEntry_235 t) Q) :
    ∀ j i, i + j = m → ∀ (σ τ : am_S) (p : Nat), FR [(30, 1), (30, 3)] [15, 16, 19, 20] σ0 σ → FR [(0, 6), (0, 8)] [20, 21] τ0 τ → NR [(15, 7 * e), (16, 7 * e), (19, L), (20, L)] σ0 σ → NR [(20, 11 * e), (21, 11 * e)] τ0 τ → RG 30 σ τ p q → p0 ≤ p → FO σ τ e u → ∀ n n', j + 1 < n → j + 1 < n' → R2 (g_Ur_readEntry_109 n (nI a) (nI (12 * a)) (nI (12 * a + i)) σ) (g_Mo_readEntry_120 n' (nI a) (nI e) (nI (12 * a + i)) τ) Q := by
  intro j
  induction j with
  | zero =>
    intro i hi σ τ p fs ft ns nt hG h0 hF n n' hn hn'
    obtain ⟨n, rfl⟩ : ∃ z, n = z + 1 := ⟨n - 1, by omega⟩
    obtain ⟨n', rfl⟩ : ∃ z, n' = z + 1 := ⟨n' - 1, by omega⟩
    rw [g_Ur_readEntry_109, g_Mo_readEntry_120, inb_nI ha (by decide), gd_t, gd_t, nI_clamp (by omega), fr_b fs (by decide), h26, fr_b ft (by decide), h11, show (12 : Int32) * nI a = nI (12 * a) from pk_mul 12 a, nI_add, if_neg (nI_nlt (by omega) (by omega)), if_neg (nI_nlt (by omega) (by omega))]
    exact hy σ τ p fs ft ns nt h0 hG hF
  | succ j ih =>
    intro i hi σ τ p fs ft ns nt hG h0 hF n n' hn hn'
    obtain ⟨n, rfl⟩ : ∃ z, n = z + 2 := ⟨n - 2, by omega⟩
    obtain ⟨n', rfl⟩ : ∃ z, n' = z + 2 := ⟨n' - 2, by omega⟩
    obtain ⟨T1, T2, f, hf, T3, T4⟩ := hT i (by omega)
    rw [g_Ur_readEntry_109, g_Mo_readEntry_120, inb_nI ha (by decide), gd_t, gd_t, nI_clamp (n := a) (by omega), fr_b fs (k := 26) (by decide), h26, fr_b ft (k := 11) (by decide), h11, show (12 : Int32) * nI a = nI (12 * a) from pk_mul 12 a, nI_add, if_pos (nI_lt (by omega) (by omega)), if_pos (nI_lt (by omega) (by omega)), if_pos (RG_3 hG), if_pos (RG_8 hG), inb_nI (n := 12 * a + i) (by omega) (by decide), gd_t, gd_t, gd_t, gd_t, gd_t, nI_clamp (n := 12 * a + i) (by omega), fr_b fs (k := 28) (by decide), T3, fr_b ft (k := 12) (by decide), T4, fr_c fs (k := 29) (by decide), T2, fr_c ft (k := 9) (by decide), fr_c fs (k := 27) (by decide), T1]
    refine R2_b (rvZ hf hG) (fun v s1 w t1 _ _ k1 => ?_)
    obtain ⟨f1, g1, k1⟩ := k1
    have fs1 : FR [(30, 1), (30, 3)] [15, 16, 19, 20] σ0 s1 := fr_tr fs (fr_up f1 (fun _ h => h) (fun _ h => by cases h))
    have ft1 : FR [(0, 6), (0, 8)] [20, 21] τ0 t1 := fr_tr ft (fr_up g1 (fun _ h => h) (fun _ h => by cases h))
    have ns1 := NR_fr ns f1
    have nt1 := NR_fr nt g1
    refine R2_l (kp_c he hu ((fr_i fs1 (by decide)).trans h10) (by rw [fr_b fs1 (by decide)]; exact h13)) (fun _ s2 _ k2 => ?_)
    have e11 : s1.2.2 11 e = σ0.2.2 11 e := by rw [fr_c fs1 (by decide)]
    have kf := KP_fr k2 (L := L) (fun z => hL (e11.symm.trans z))
    have fs2 : FR [(30, 1), (30, 3)] [15, 16, 19, 20] σ0 s2 := fr_tr fs1 (fr_up kf.1 (fun _ h => by cases h) (fun _ h => h))
    have ns2 := NR_tr ns1 kf.2
    refine R2_2 (st_m (x := τ0.2.2 8 (12 * a + i)) (f := nI f) he (by omega) (by rw [fr_c ft1 (by decide)]) (by rw [fr_b ft1 (by decide)]; exact T4) (fun t2 k3 => ?_))
    have kg := KM_fr k3
    have ft2 : FR [(0, 6), (0, 8)] [20, 21] τ0 t2 := fr_tr ft1 (fr_up kg.1 (fun _ h => by cases h) (fun _ h => h))
    have nt2 := NR_tr nt1 kg.2
    refine R1_2 ?_
    rcases k1 with ⟨p', h1, h2, G1, rfl, h8, _⟩ | b
    · have G2 : RG 30 s2 t2 p' q := RG_fr G1 kf.1 kg.1 (by decide)
      have F1 : FO s1 t1 e u := by
        obtain ⟨A1, A2, A3⟩ := hF
        unfold FO
        rw [fr_c f1 (k := 11) (by decide)]
        exact ⟨fun hl k hk => SL_up (A1 hl k hk) (by rw [fr_b f1 (by decide)]) (by rw [fr_c f1 (by decide)]) (by rw [fr_b g1 (by decide)]) (by rw [fr_c g1 (by decide)]) (fr_b f1 (by decide)), fun hl k hk => by rw [fr_b f1 (by decide)]; exact A2 hl k hk, fun hl k hk => US_up (A3 hl k hk) (by rw [fr_b f1 (by decide)]) (by rw [fr_c f1 (by decide)]) (by rw [fr_b g1 (by decide)]) (by rw [fr_c g1 (by decide)])⟩
      have F2 := FO_step F1 hf (by rw [fr_b f1 (by decide)]; exact h8) k2 k3
      rw [show nI (12 * a + i) + 1 = nI (12 * a + (i + 1)) from nI_add _ 1]
      exact ih (i + 1) (by omega) s2 t2 p' fs2 ft2 ns2 nt2 G2 (by omega) F2 (n + 1) (n' + 1) (by omega) (by omega)
    · have b2 : BD 30 s2 t2 := BD_fr b kf.1 kg.1 (by decide)
      rw [g_Ur_readEntry_109, g_Mo_readEntry_120, inb_nI ha (by decide), gd_t, gd_t, if_neg b2.1, if_neg b2.2]
      simp only [ite_self]
      exact hb s2 t2 fs2 ft2 b2
