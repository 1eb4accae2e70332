/-! the abbreviations, both sides -/
theorem ra_0 {n : Nat} {x4 : Int32} {τ : am_S} : g_Mo_readAbbreviations_16 (n + 1) 0 x4 τ = some (0, τ) := by
  unfold g_Mo_readAbbreviations_16 g_Mo_readAbbreviations_189
  by_cases c : x4 = 0
  · rw [if_pos c]; rfl
  · rw [if_neg c, if_pos rfl]; rfl
theorem ra_1 {n : Nat} {τ : am_S} : g_Mo_readAbbreviations_16 (n + 1) 1 0 τ = some (1, τ) := by
  unfold g_Mo_readAbbreviations_16 g_Mo_readAbbreviations_189
  rw [if_pos rfl]; rfl
def AbP (x : Int32) (s : am_S) (y : Int32) (t : am_S) : Prop := (x = 0 ∧ y = 0) ∨ (x = 1 ∧ y = 1 ∧ ∃ m, m ≤ 40 ∧ s.1.1 22 7 = nI m ∧ t.1.1 0 13 = nI m ∧ ∀ a, a < m → AB1 s t a)
def AbS (q i : Nat) : Prop := ∀ (σ τ : am_S) (p : Nat), RG 31 σ τ p q → σ.1.1 22 7 = nI i → τ.1.1 0 13 = nI i → (∀ a, a < i → AB1 σ τ a) → ∀ n n', 40 - i < n → 41 - i < n' → R2 (g_Ab_read_31_7 n (nI i) σ) (g_Mo_readAbbreviations_16 n' 1 1 τ) AbP
theorem ro_l {q i : Nat} (hi : i < 40) (ih : AbS q (i + 1)) {x : Int64} {σ τ : am_S} {p n n' : Nat} (hn : 40 - i < n + 1) (hn' : 41 - i < n' + 2) (hG : RG 31 σ τ p q) (h7 : σ.1.1 22 7 = nI i) (h13 : τ.1.1 0 13 = nI i) (hA : ∀ a, a < i → AB1 σ τ a) : R2 (am_bd (g_Ab_readOne_31 (am_al σ 23 i x)) fun v31 σ31 => if v31 = 0 then some (0, σ31) else g_Ab_read_31_7 n (nI i + 1) (am_fi σ31 22 7 ((σ31.1.1 22 7) + 1))) (am_bd (g_Mo_leb 0 (am_al τ 6 i x)) fun v19 σ19 => am_bd (g_Mo_u 1 (am_al σ19 7 i v19)) fun v23 σ23 => if (lg_cmp v23 1) = 0 then g_Mo_readAbbreviations_151 (g_Mo_readAbbreviations_16 (n' + 1)) 1 (nI i) v23 1 (nI i) σ23 else g_Mo_readAbbreviations_151 (g_Mo_readAbbreviations_16 (n' + 1)) 1 (nI i) v23 0 (nI i) σ23) AbP := by
  have hG0 : RG 31 (am_al σ 23 i x) (am_al τ 6 i x) p q := hG
  unfold g_Ab_readOne_31 g_Mo_readAbbreviations_151 g_Mo_readAbbreviations_174 g_Mo_readAbbreviations_175 g_Mo_readAbbreviations_186 g_Ab_readOne_31_32
  rw [show (am_al σ 23 i x).1.1 22 7 = nI i from h7, inb_nI hi (by decide), nI_clamp (by omega)]
  obtain ⟨v1, s1, w1, t1, e1, e1', f1, g1, k1⟩ := xul hG0
  rw [e1, e1', bd_t, bd_t, gd_t]
  have no : ∀ (s : am_S) (M : Option (Int32 × am_S)), R1 M (fun v _ => v = 0) → R2 (am_bd (some ((0 : Int32), s)) fun v31 σ31 => if v31 = 0 then some (0, σ31) else g_Ab_read_31_7 n (nI i + 1) (am_fi σ31 22 7 ((σ31.1.1 22 7) + 1))) M AbP := fun s M h => by
    rw [bd_t, if_pos rfl]
    exact R2_of (P := fun v _ => v = 0) (R1_p rfl) h (fun _ _ _ _ _ _ a b => Or.inl ⟨a, b⟩)
  rcases k1 with ⟨p1, _, _, G1, rfl⟩ | ⟨b1, _⟩
  · have G1' : RG 31 (am_al s1 24 i v1) (am_al t1 7 i v1) p1 q := G1
    obtain ⟨v2, s2, w2, t2, e2, e2', f2, g2, k2⟩ := xu (m := 1) G1' (by omega) (by omega)
    rw [show g_Cu_number 31 1 (am_al s1 24 i v1) = _ from e2, show g_Mo_u 1 (am_al t1 7 i v1) = _ from e2', bd_t, bd_t]
    have h7' : s2.1.1 22 7 = nI i := (fr_i f2 (by decide)).trans ((fr_i f1 (by decide)).trans h7)
    have h13' : t2.1.1 0 13 = nI i := (fr_i g2 (by decide)).trans ((fr_i g1 (by decide)).trans h13)
    rcases k2 with ⟨_, G2, rfl, rfl⟩ | ⟨b2, rfl, rfl⟩
    · rw [if_pos (RG_3 G2), h7']
      generalize hc : num ((am_al s1 24 i v1).2.1 1) p1 1 = c
      have hc8 : c < 256 := by
        have := num_lt ((am_al s1 24 i v1).2.1 1) 1 p1
        omega
      have fin : ∀ y : Int32, R2 (am_bd (g_Ab_readOne_31_53 y (nI i) s2) fun v31 σ31 => if v31 = 0 then some (0, σ31) else g_Ab_read_31_7 n (nI i + 1) (am_fi σ31 22 7 ((σ31.1.1 22 7) + 1))) (am_bd (g_Mo_readAttributes (nI i) (am_ai t2 10 i (vp_nar .boolean y))) fun v8 σ8 => if v8 = 0 then g_Mo_readAbbreviations_16 (n' + 1) 0 1 (am_fi σ8 0 13 ((σ8.1.1 0 13) + 1)) else g_Mo_readAbbreviations_16 (n' + 1) 1 1 (am_fi σ8 0 13 ((σ8.1.1 0 13) + 1))) AbP := by
        intro y
        unfold g_Ab_readOne_31_53 g_Mo_readAttributes
        rw [inb_nI hi (by decide), gd_t, gd_t, nI_clamp (by omega)]
        have G3 : RG 31 (am_ai s2 25 i (vp_nar .boolean y)) (am_ai (am_ai t2 10 i (vp_nar .boolean y)) 11 i 0) (p1 + 1) q := ⟨G2.1, G2.2.1, by rw [ai_r (by decide), ai_r (by decide), ai_r (by decide)]; exact G2.2.2⟩
        refine R2_b (at_l hi 12 0 rfl _ _ (p1 + 1) G3 h7' ai_at (fun m hm => absurd hm (by omega)) 4000 4000 (by omega) (by omega)) (fun x3 s3 y3 t3 e3 e3' k3 => ?_)
        rcases k3 with ⟨rfl, rfl⟩ | ⟨rfl, rfl, ⟨p3, G3'⟩, N3, M3, m, hm, a1, a2, a3⟩
        · rw [if_pos rfl, if_pos rfl, ra_0]
          exact R2_p (Or.inl ⟨rfl, rfl⟩)
        · have fr3 := f_Ab_readOne_31_57 _ e3
          have fr4 := f_Mo_readAttributes_9 _ e3'
          have h7'' : s3.1.1 22 7 = nI i := (fr_i fr3 (by decide)).trans h7'
          have h13'' : t3.1.1 0 13 = nI i := (fr_i fr4 (by decide)).trans h13'
          rw [if_neg i10, if_neg i10, h7'', h13'', show nI i + 1 = nI (i + 1) from nI_add i 1]
          have C0 : NR (AC i) σ (am_ai s2 25 i (vp_nar .boolean y)) := NR_ai (NR_fr (NR_al (NR_fr (NR_al NR_rf (by simp [AC]) (Nat.le_refl _)) f1) (by simp [AC]) (Nat.le_refl _)) f2) (by simp [AC]) (Nat.le_refl _)
          have D0 : NR (AM i) τ (am_ai (am_ai t2 10 i (vp_nar .boolean y)) 11 i 0) := NR_ai (NR_ai (NR_fr (NR_al (NR_fr (NR_al NR_rf (by simp [AM]) (Nat.le_refl _)) g1) (by simp [AM]) (Nat.le_refl _)) g2) (by simp [AM]) (Nat.le_refl _)) (by simp [AM]) (Nat.le_refl _)
          have C1 : NR (AC i) σ s3 := NR_tr C0 (NR_wk N3 (by
            intro k L h
            refine ⟨L, ?_, Nat.le_refl _⟩
            simp at h
            rcases h with ⟨rfl, rfl⟩ | ⟨rfl, rfl⟩ | ⟨rfl, rfl⟩ | ⟨rfl, rfl⟩ <;> simp [AC]))
          have D1 : NR (AM i) τ t3 := NR_tr D0 (NR_wk M3 (by
            intro k L h
            refine ⟨L, ?_, Nat.le_refl _⟩
            simp at h
            rcases h with ⟨rfl, rfl⟩ | ⟨rfl, rfl⟩ | ⟨rfl, rfl⟩ | ⟨rfl, rfl⟩ <;> simp [AM]))
          refine ih (am_fi s3 22 7 (nI (i + 1))) (am_fi t3 0 13 (nI (i + 1))) p3 ⟨CU_o G3'.1 (by decide), RU_fr G3'.2.1 (fr_fi (W := [(0, 13)]) (A := []) fr_rf (by simp)) (by decide) (by decide) (by decide), G3'.2.2⟩ fi_at fi_at (fun a ha => ?_) n (n' + 1) (by omega) (by omega)
          show AB1 s3 t3 a
          by_cases ca : a = i
          · subst ca
            refine ⟨?_, ?_, ?_, m, hm, a1, a2, a3⟩
            · rw [NR_l N3 (by simp), NR_l M3 (by simp), ai_l, ai_l, ai_l, fr_c f2 (by decide), fr_c g2 (by decide), al_no (Or.inl (by decide)), al_no (Or.inl (by decide)), fr_c f1 (by decide), fr_c g1 (by decide), al_at, al_at]
            · rw [NR_l N3 (by simp), NR_l M3 (by simp), ai_l, ai_l, ai_l, fr_c f2 (by decide), fr_c g2 (by decide), al_at, al_at]
            · rw [NR_i N3 (by simp), NR_i M3 (by simp), ai_at, ai_no (Or.inl (by decide)), ai_at]
          · exact AB1_up (hA a (by omega)) (by omega) C1 D1
      by_cases c2 : 1 < c
      · rw [if_pos (show 0 < lg_cmp (lN c) 1 from (cmp_gt _ _).mpr ((lN_lt (a := 1) (by omega) (by omega)).mpr c2)), if_neg (show ¬ lg_cmp (lN c) 1 = 0 from fun z => by
          have := (lN_eq (b := 1) (by omega) (by omega)).mp ((cmp_eq _ _).mp z)
          omega), if_neg (show ¬ lg_cmp (lN c) 2 < 0 from fun z => by
          have := (lN_lt (b := 2) (by omega) (by omega)).mp ((cmp_lt _ _).mp z)
          omega), gd_t, ra_0]
        exact no _ _ (R1_p rfl)
      · rw [if_neg (show ¬ 0 < lg_cmp (lN c) 1 from fun z => c2 ((lN_lt (a := 1) (by omega) (by omega)).mp ((cmp_gt _ _).mp z)))]
        have l2 : lg_cmp (lN c) 2 < 0 := (cmp_lt _ _).mpr ((lN_lt (b := 2) (by omega) (by omega)).mpr (by omega))
        by_cases c1 : c = 1
        · have z1 : lg_cmp (lN c) 1 = 0 := (cmp_eq _ _).mpr (by rw [c1]; rfl)
          rw [if_pos z1, if_pos z1, if_pos l2, gd_t]
          exact fin 1
        · have z1 : ¬ lg_cmp (lN c) 1 = 0 := fun z => c1 ((lN_eq (b := 1) (by omega) (by omega)).mp ((cmp_eq _ _).mp z))
          rw [if_neg z1, if_neg z1, if_pos l2, gd_t]
          exact fin 0
    · rw [if_neg b2.1]
      refine no _ _ ?_
      rw [if_neg (by decide), gd_t, if_pos (by decide)]
      unfold g_Mo_readAttributes
      rw [inb_nI hi (by decide), gd_t]
      refine R1_b (at_mb b2.2) (fun v s _ k => ?_)
      rw [k, if_pos rfl, ra_0]
      exact R1_p rfl
  · rw [bn (σ := am_al s1 24 i v1) b1.1, bmu (τ := am_al t1 7 i w1) b1.2, bd_t, bd_t, if_neg (by rw [fi_at]; decide)]
    refine no _ _ ?_
    rw [if_neg (by decide), gd_t, if_pos (by decide)]
    unfold g_Mo_readAttributes
    rw [inb_nI hi (by decide), gd_t]
    refine R1_b (at_mb (by rw [ai_f, ai_f, fi_at]; decide)) (fun v s _ k => ?_)
    rw [k, if_pos rfl, ra_0]
    exact R1_p rfl
theorem ab_s {q i : Nat} (hi : i ≤ 40) (ih : i < 40 → AbS q (i + 1)) : AbS q i := by
  intro σ τ p hG h7 h13 hA n n' hn hn'
  obtain ⟨n, rfl⟩ : ∃ z, n = z + 1 := ⟨n - 1, by omega⟩
  obtain ⟨n', rfl⟩ : ∃ z, n' = z + 2 := ⟨n' - 2, by omega⟩
  rw [g_Ab_read_31_7, g_Mo_readAbbreviations_16, if_neg (show ¬ 40 < nI i from nI_nlt (a := 40) (by omega) (by omega)), if_neg i10, if_neg i10]
  refine R2_b (xul hG) (fun v1 s1 w1 t1 _ _ k1 => ?_)
  obtain ⟨f1, g1, k1⟩ := k1
  have h7' : s1.1.1 22 7 = nI i := (fr_i f1 (by decide)).trans h7
  have h13' : t1.1.1 0 13 = nI i := (fr_i g1 (by decide)).trans h13
  have hA' : ∀ a, a < i → AB1 s1 t1 a := fun a ha => AB1_up (hA a ha) ha (NR_fr NR_rf f1) (NR_fr NR_rf g1)
  unfold g_Mo_readAbbreviations_50 g_Mo_readAbbreviations_51 g_Mo_readAbbreviations_84 g_Mo_readAbbreviations_88 g_Mo_readAbbreviations_89 g_Mo_readAbbreviations_186 g_Ab_read_31_53
  rcases k1 with ⟨p1, _, _, G1, rfl⟩ | ⟨b1, _⟩
  · rw [if_pos (RG_3 G1), if_pos (RG_8 G1)]
    by_cases z : lg_cmp v1 0 = 0
    · rw [if_pos z, if_pos z, if_pos (RG_8 G1), if_pos rfl, if_pos rfl, ra_1]
      exact R2_p (Or.inr ⟨rfl, rfl, i, hi, h7', h13', hA'⟩)
    · rw [if_neg z, if_neg z, if_pos (RG_8 G1), if_neg i10, h7', h13']
      by_cases c40 : i = 40
      · rw [if_pos (show nI i = 40 from c40 ▸ rfl), if_neg (show ¬ nI i < 40 from nI_nlt (b := 40) (by omega) (by omega)), if_neg i10, if_pos rfl, ra_0]
        exact R2_p (Or.inl ⟨rfl, rfl⟩)
      · rw [if_neg (show ¬ nI i = 40 from fun z => c40 ((nI_eq (b := 40) (by omega) (by omega)).mp z)), if_pos (show nI i < 40 from nI_lt (b := 40) (by omega) (by omega))]
        refine R2_b (wn hi h7' h13' (fun a ha => (hA' a ha).1)) (fun v2 s2 w2 t2 _ _ k2 => ?_)
        obtain ⟨rfl, rfl, rfl, k2⟩ := k2
        rcases k2 with rfl | ⟨a, ha, rfl⟩
        · rw [if_pos rfl, if_pos rfl, if_neg i10, if_neg i10, h7', h13', inb_nI (by omega) (by decide), gd_t, gd_t, nI_clamp (by omega)]
          have hx := ro_l (q := q) (i := i) (by omega) (ih (by omega)) (x := v1) (n := n) (n' := n') hn hn' G1 h7' h13' hA'
          exact hx
        · rw [if_neg (nI_ne (by omega)), if_neg (nI_ne (by omega)), if_neg i10, if_pos rfl, ra_0]
          exact R2_p (Or.inl ⟨rfl, rfl⟩)
  · rw [if_neg b1.1, if_neg b1.2, if_neg b1.2, if_pos rfl, ra_0]
    exact R2_p (Or.inl ⟨rfl, rfl⟩)
theorem ab_l {q : Nat} : ∀ j i, i + j = 40 → AbS q i := by
  intro j
  induction j with
  | zero => exact fun i hi => ab_s (by omega) (fun z => by omega)
  | succ j ih => exact fun i hi => ab_s (by omega) (fun _ => ih (i + 1) (by omega))
