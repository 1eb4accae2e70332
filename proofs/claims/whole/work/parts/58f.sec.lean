/-! the sections, both sides -/
theorem tEnd_nz {B : Nat → Int32} : ∀ {n p e : Nat}, tEnd B n p = some e → (∀ m, p ≤ m → m < e → ¬ B m = 0) ∧ B e = 0
  | 0, _, _, h => by cases h
  | n + 1, p, e, h => by
    unfold tEnd at h
    by_cases c : B p = 0
    · rw [if_pos c] at h
      cases h
      exact ⟨fun m h1 h2 => by omega, c⟩
    · rw [if_neg c] at h
      have := tEnd_nz h
      refine ⟨fun m h1 h2 => ?_, this.2⟩
      by_cases z : m = p
      · rw [z]; exact c
      · exact this.1 m (by omega) h2
theorem gt_off {k : Nat} {σ : am_S} (h : ¬ σ.1.1 k 3 = 0) : g_Cu_text k σ = some (σ.1.1 k 1, am_fi σ k 3 1) := by
  unfold g_Cu_text g_Cu_text_10 g_Cu_text_49
  by_cases c : σ.1.1 k 1 < σ.1.1 k 2
  · rw [if_pos c, if_neg h]
  · rw [if_neg c]
theorem clr_c : ∀ j k, k + j = 10 → ∀ (σ : am_S), (∀ m, m < k → σ.2.1 6 m = 0 ∧ σ.2.1 7 m = 0 ∧ σ.2.1 8 m = 0) → ∀ n, j < n → ∃ σ', g_Se_readNames_2 n (nI k) σ = g_Se_readNames_37 4000 (nI 0) σ' ∧ (∀ m, m < 10 → σ'.2.1 6 m = 0 ∧ σ'.2.1 7 m = 0 ∧ σ'.2.1 8 m = 0) ∧ FR [] [6, 7, 8] σ σ' := by
  intro j
  induction j with
  | zero =>
    intro k hk σ h n hn
    obtain ⟨n, rfl⟩ : ∃ z, n = z + 1 := ⟨n - 1, by omega⟩
    rw [g_Se_readNames_2, if_neg (show ¬ nI k < 10 from nI_nlt (b := 10) (by omega) (by omega))]
    exact ⟨σ, rfl, fun m hm => h m (by omega), fr_rf⟩
  | succ j ih =>
    intro k hk σ h n hn
    obtain ⟨n, rfl⟩ : ∃ z, n = z + 1 := ⟨n - 1, by omega⟩
    rw [g_Se_readNames_2, if_pos (show nI k < 10 from nI_lt (b := 10) (by omega) (by omega)), inb_nI (by omega) (by decide), gd_t, gd_t, gd_t, nI_clamp (by omega), show nI k + 1 = nI (k + 1) from nI_add k 1]
    obtain ⟨σ', e1, e2, e3⟩ := ih (k + 1) (by omega) (am_ai (am_ai (am_ai σ 6 k 0) 7 k 0) 8 k (vp_nar .boolean 0)) (fun m hm => by
      by_cases c : m = k
      · subst c
        rw [ai_no (Or.inl (by decide)), ai_no (Or.inl (by decide)), ai_at, ai_no (Or.inl (by decide)), ai_at, ai_at]
        exact ⟨rfl, rfl, rfl⟩
      · rw [ai_no (Or.inr c), ai_no (Or.inr c), ai_no (Or.inr c), ai_no (Or.inr c), ai_no (Or.inr c), ai_no (Or.inr c), ai_no (Or.inr c), ai_no (Or.inr c), ai_no (Or.inr c)]
        exact h m (by omega)) n (by omega)
    exact ⟨σ', e1, e2, fr_tr (fr_ai (fr_ai (fr_ai fr_rf (by decide)) (by decide)) (by decide)) e3⟩
theorem clr_m {x : Int32} : ∀ j k, k + j = 10 → ∀ (σ : am_S), (∀ m, m < k → σ.2.1 3 m = 0 ∧ σ.2.1 4 m = 0 ∧ σ.2.1 5 m = 0) → ∀ n, j < n → ∃ σ', g_Mo_readSections_59 n x (nI k) σ = g_Mo_readSections_99 4000 x (nI 0) σ' ∧ (∀ m, m < 10 → σ'.2.1 3 m = 0 ∧ σ'.2.1 4 m = 0 ∧ σ'.2.1 5 m = 0) ∧ FR [] [3, 4, 5] σ σ' := by
  intro j
  induction j with
  | zero =>
    intro k hk σ h n hn
    obtain ⟨n, rfl⟩ : ∃ z, n = z + 1 := ⟨n - 1, by omega⟩
    rw [g_Mo_readSections_59, if_neg (show ¬ nI k < 10 from nI_nlt (b := 10) (by omega) (by omega))]
    exact ⟨σ, rfl, fun m hm => h m (by omega), fr_rf⟩
  | succ j ih =>
    intro k hk σ h n hn
    obtain ⟨n, rfl⟩ : ∃ z, n = z + 1 := ⟨n - 1, by omega⟩
    rw [g_Mo_readSections_59, if_pos (show nI k < 10 from nI_lt (b := 10) (by omega) (by omega)), inb_nI (by omega) (by decide), gd_t, gd_t, gd_t, nI_clamp (by omega), show nI k + 1 = nI (k + 1) from nI_add k 1]
    obtain ⟨σ', e1, e2, e3⟩ := ih (k + 1) (by omega) (am_ai (am_ai (am_ai σ 5 k (vp_nar .boolean 0)) 3 k 0) 4 k 0) (fun m hm => by
      by_cases c : m = k
      · subst c
        rw [ai_no (Or.inl (by decide)), ai_at, ai_at, ai_no (Or.inl (by decide)), ai_no (Or.inl (by decide)), ai_at]
        exact ⟨rfl, rfl, rfl⟩
      · rw [ai_no (Or.inr c), ai_no (Or.inr c), ai_no (Or.inr c), ai_no (Or.inr c), ai_no (Or.inr c), ai_no (Or.inr c), ai_no (Or.inr c), ai_no (Or.inr c), ai_no (Or.inr c)]
        exact h m (by omega)) n (by omega)
    exact ⟨σ', e1, e2, fr_tr (fr_ai (fr_ai (fr_ai fr_rf (by decide)) (by decide)) (by decide)) e3⟩
/-- a row of the class's table of sections -/
def TB (B : Nat → Int32) (h : Nat) (σ : am_S) (m : Nat) : Prop := σ.2.2 5 m = lN (num B (h + 64 * m) 4) ∧ σ.2.1 3 m = nI (sF B (h + 64 * m)) ∧ σ.2.1 4 m = nI (sF B (h + 64 * m) + sZ B (h + 64 * m))
theorem rhd_c {B : Nat → Int32} {h t len : Nat} {Q : Int32 → am_S → Prop} (hl : len ≤ 3000) (ht : t ≤ 24) (hp : h + 64 * t ≤ len) (hn : (¬ ∀ m, m < t → LIE B len (h + 64 * m)) → ∀ s, Q 0 s) {y : Int32} (hy : (∀ m, m < t → LIE B len (h + 64 * m)) → ∀ s, s.1.1 2 8 = nI t → s.1.1 2 10 = y → s.2.1 1 = B → (∀ m, m < t → TB B h s m) → R1 (am_bd (g_Se_readNames s) (fun v6 σ6 => am_gd (z01 v6) (some (v6, σ6)))) Q) : ∀ j i, i + j = t → ∀ (σ : am_S), σ.1.1 2 8 = nI t → σ.1.1 2 9 = nI h → σ.1.1 2 10 = y → σ.2.1 1 = B → (∀ m, m < i → TB B h σ m ∧ LIE B len (h + 64 * m)) → ∀ n, j < n → R1 (g_Se_read_12 n (nI len) (nI i) σ) Q := by
  intro j
  induction j with
  | zero =>
    intro i hi σ h8 h9 h10 hb hT n hn'
    obtain ⟨n, rfl⟩ : ∃ z, n = z + 1 := ⟨n - 1, by omega⟩
    rw [g_Se_read_12, h8, if_neg (nI_nlt (by omega) (by omega))]
    exact hy (fun m hm => (hT m (by omega)).2) σ h8 h10 hb (fun m hm => (hT m (by omega)).1)
  | succ j ih =>
    intro i hi σ h8 h9 h10 hb hT n hn'
    obtain ⟨n, rfl⟩ : ∃ z, n = z + 1 := ⟨n - 1, by omega⟩
    rw [g_Se_read_12, h8, if_pos (nI_lt (by omega) (by omega))]
    refine R1_b (rd_c (h := h) (i := i) (len := len) hl (by omega) (by omega) h9) (fun v s e k => ?_)
    have fr := f_Se_readHeader e
    rw [hb] at k
    rcases k with ⟨e1, k⟩ | ⟨e1, k1, k2, k3, k4, k5⟩
    · rw [e1, if_pos rfl]
      exact R1_p (hn (fun q => k (q i (by omega))) s)
    · rw [e1, if_neg (by decide), show nI i + 1 = nI (i + 1) from nI_add i 1]
      refine ih (i + 1) (by omega) s ((fr_i fr (by decide)).trans h8) ((fr_i fr (by decide)).trans h9) ((fr_i fr (by decide)).trans h10) ((fr_b fr (by decide)).trans hb) (fun m hm => ?_) n (by omega)
      by_cases c : m = i
      · subst c
        exact ⟨⟨k2, k3, k4⟩, k1⟩
      · obtain ⟨⟨q1, q2, q3⟩, q4⟩ := hT m (by omega)
        obtain ⟨p1, p2, p3⟩ := k5 m c
        exact ⟨⟨p1.trans q1, p2.trans q2, p3.trans q3⟩, q4⟩
theorem ls_m {h t ni len : Nat} {τ : am_S} {Q : Int32 → am_S → Prop} (hl : len ≤ 3000) (h3 : τ.1.1 0 3 = nI len) (h9 : τ.1.1 0 9 = nI t) (hni : num (τ.2.1 2) 62 2 = ni) (hnt : ni < t) (h64 : 64 ≤ len) (hp : h + 64 * t ≤ len) (hn : (¬ ∀ m, m < t → LIE (τ.2.1 2) len (h + 64 * m)) → Q 0 τ) (hy : (∀ m, m < t → LIE (τ.2.1 2) len (h + 64 * m)) → R1 (g_Mo_readSections_223 4000 (nI h) (nI (sF (τ.2.1 2) (h + 64 * ni))) (nI (sF (τ.2.1 2) (h + 64 * ni) + sZ (τ.2.1 2) (h + 64 * ni))) 1 0 τ) Q) : ∀ j i, i + j = t → (∀ m, m < i → LIE (τ.2.1 2) len (h + 64 * m)) → ∀ n, j < n → R1 (g_Mo_readSections_99 n (nI h) (nI i) τ) Q := by
  intro j
  induction j with
  | zero =>
    intro i hi hT n hn'
    obtain ⟨n, rfl⟩ : ∃ z, n = z + 1 := ⟨n - 1, by omega⟩
    have hq := hy (fun m hm => hT m (by omega))
    unfold g_Mo_readSections_99 g_Mo_readSections_166 g_Mo_readSections_189 g_Mo_readSections_215
    rw [h9, if_neg (nI_nlt (by omega) (by omega))]
    refine R1_b (pe_1 (p := 62) (m := 2) (by omega) (by omega)) (fun v1 t1 _ k1 => ?_)
    obtain ⟨w1, rfl⟩ := k1
    rw [hni] at w1
    rw [w1, lN_i, show (64 : Int32) * nI ni = nI (64 * ni) from pk_mul 64 ni, nI_add, show nI (h + 64 * ni) + 4 = nI (h + 64 * ni + 4) from nI_add _ 4, show nI (h + 64 * ni) + 24 = nI (h + 64 * ni + 24) from nI_add _ 24, show nI (h + 64 * ni) + 32 = nI (h + 64 * ni + 32) from nI_add _ 32]
    refine R1_b (pe_1 (p := h + 64 * ni + 4) (m := 4) (by omega) (by omega)) (fun v3 t3 _ k3 => ?_)
    obtain ⟨w3, rfl⟩ := k3
    have n3 := num_lt (t3.2.1 2) 4 (h + 64 * ni + 4)
    have hc : lg_cmp v3 8 = 0 ↔ kN (t3.2.1 2) (h + 64 * ni) := by
      rw [cmp_eq, w3]
      exact lNe (c := 8) (by omega) (by omega)
    by_cases c : kN (t3.2.1 2) (h + 64 * ni)
    · have f0 : sF (t3.2.1 2) (h + 64 * ni) = 0 := if_pos c
      have z0 : sZ (t3.2.1 2) (h + 64 * ni) = 0 := if_pos c
      rw [f0, z0] at hq
      rw [if_pos (hc.mpr c), if_neg (by decide), if_neg (by decide)]
      exact hq
    · have f0 : sF (t3.2.1 2) (h + 64 * ni) = num (t3.2.1 2) (h + 64 * ni + 24) 8 := if_neg c
      have z0 : sZ (t3.2.1 2) (h + 64 * ni) = num (t3.2.1 2) (h + 64 * ni + 32) 8 := if_neg c
      rw [f0, z0] at hq
      rw [if_neg (fun z => c (hc.mp z)), if_pos rfl]
      refine R1_b (pe_1 (p := h + 64 * ni + 24) (m := 8) (by omega) (by omega)) (fun v4 t4 _ k4 => ?_)
      obtain ⟨w4, rfl⟩ := k4
      rw [if_pos rfl]
      refine R1_b (pe_1 (p := h + 64 * ni + 32) (m := 8) (by omega) (by omega)) (fun v5 t5 _ k5 => ?_)
      obtain ⟨w5, rfl⟩ := k5
      rw [w4, w5, lN_i, lN_i, nI_add]
      exact hq
  | succ j ih =>
    intro i hi hT n hn'
    obtain ⟨n, rfl⟩ : ∃ z, n = z + 1 := ⟨n - 1, by omega⟩
    rw [g_Mo_readSections_99, h9, if_pos (nI_lt (by omega) (by omega)), show (64 : Int32) * nI i = nI (64 * i) from pk_mul 64 i, nI_add]
    refine R1_b (lie_m hl (by omega) h3) (fun v s _ k => ?_)
    obtain ⟨rfl, k⟩ := k
    rcases k with ⟨e1, k⟩ | ⟨e1, k⟩
    · rw [e1, if_pos rfl]
      exact R1_p (hn (fun q => k (q i (by omega))))
    · rw [e1, if_neg (by decide), show nI i + 1 = nI (i + 1) from nI_add i 1]
      exact ih (i + 1) (by omega) (lt_s hT k) n (by omega)
theorem na_l {B : Nat → Int32} {h t ni len : Nat} (hl : len ≤ 3000) (ht : t ≤ 24) (hp : h + 64 * t ≤ len) (hnt : ni < t) (hL : ∀ m, m < t → LIE B len (h + 64 * m)) : ∀ j i, i + j = t → ∀ (σ τ : am_S), SR σ τ → σ.2.1 1 = B → τ.2.1 2 = B → SPE τ → σ.1.1 2 8 = nI t → σ.1.1 2 10 = nI ni → (∀ m, m < t → TB B h σ m) → τ.1.1 0 9 = nI t → ∀ n n', j < n → j < n' → R2 (g_Se_readNames_37 n (nI i) σ) (g_Mo_readSections_223 n' (nI h) (nI (sF B (h + 64 * ni))) (nI (sF B (h + 64 * ni) + sZ B (h + 64 * ni))) 1 (nI i) τ) (fun a s b t' => (a = 0 ∧ b = 0) ∨ (a = 1 ∧ b = 1 ∧ SR s t' ∧ t'.1.1 0 9 = nI t)) := by
  intro j
  induction j with
  | zero =>
    intro i hi σ τ hS hb1 hb2 hs h8 h10 hT h9 n n' hn hn'
    obtain ⟨n, rfl⟩ : ∃ z, n = z + 1 := ⟨n - 1, by omega⟩
    obtain ⟨n', rfl⟩ : ∃ z, n' = z + 1 := ⟨n' - 1, by omega⟩
    unfold g_Se_readNames_37 g_Mo_readSections_223 g_Mo_readSections_260
    rw [h8, h9, if_neg (nI_nlt (by omega) (by omega)), if_neg (nI_nlt (by omega) (by omega))]
    exact R2_p (Or.inr ⟨rfl, rfl, hS, h9⟩)
  | succ j ih =>
    intro i hi σ τ hS hb1 hb2 hs h8 h10 hT h9 n n' hn hn'
    obtain ⟨n, rfl⟩ : ∃ z, n = z + 1 := ⟨n - 1, by omega⟩
    obtain ⟨n', rfl⟩ : ∃ z, n' = z + 2 := ⟨n' - 2, by omega⟩
    have T1 := hT ni hnt
    have T2 := hT i (by omega)
    have hle := LIE_le (hL ni hnt)
    generalize ha : sF B (h + 64 * ni) = a at *
    generalize hz : sZ B (h + 64 * ni) = z at *
    rw [g_Se_readNames_37, g_Mo_readSections_223, h8, h9, h10, if_pos (nI_lt (by omega) (by omega)), if_pos (nI_lt (by omega) (by omega)), if_neg (by decide), inb_nI (by omega) (by decide), gd_t, gd_t, nI_clamp (by omega), T1.2.1, T1.2.2, ha, hz, show (64 : Int32) * nI i = nI (64 * i) from pk_mul 64 i, nI_add]
    refine R2_l (cs_1 (σ := σ) (k := 9) (p := a) (q := a + z) (by omega) (by omega)) (fun _ s1 e1 k1 => ?_)
    have f1 := f_Cu_set e1
    rw [inb_nI (by omega) (by decide), gd_t, nI_clamp (by omega), k1.2, T2.1]
    unfold g_Mo_names
    have n3 := num_lt B 4 (h + 64 * i)
    refine R2_l (P := fun _ s2 => FR [(9, 1), (9, 2), (9, 3)] [] σ s2 ∧ ((z < num B (h + 64 * i) 4 ∧ s2.1.1 9 3 = 1) ∨ (num B (h + 64 * i) 4 ≤ z ∧ CU s2 9 (a + num B (h + 64 * i) 4) (a + z) false))) ?_ (fun _ s2 e2 k2 => ?_)
    · by_cases c : num B (h + 64 * i) 4 ≤ z
      · exact R1_m (cg_1 k1.1 (by omega)) (fun _ s e k => ⟨fr_tr (fr_up f1 (fun _ h => h) (fun _ h => h)) (fr_up (f_Cu_skip e) (by decide) (by decide)), Or.inr ⟨c, k.1⟩⟩)
      · have hx := sk_bad (x := lN (num B (h + 64 * i) 4)) k1.1 (Or.inr (Or.inr ((lNl (by omega) (by omega)).mpr (by omega))))
        exact ⟨_, _, hx, fr_tr (fr_up f1 (fun _ h => h) (fun _ h => h)) (fr_up (f_Cu_skip hx) (by decide) (by decide)), Or.inl ⟨by omega, fi_at⟩⟩
    · have B2 : s2.2.1 1 = B := (fr_b k2.1 (by decide)).trans hb1
      rw [pk_sub (by omega), show a + z - a = z by omega, nI_l (by omega)]
      have hnx : ∀ m, g_Mo_readSections_223 (m + 1) (nI h) (nI a) (nI (a + z)) 0 (nI i + 1) τ = some (0, τ) := fun m => by
        unfold g_Mo_readSections_223 g_Mo_readSections_260
        rw [if_pos (show (0 : Int32) = 0 from rfl)]
        split <;> rfl
      refine R2_l (P := fun v s3 => FR [(9, 1), (9, 2), (9, 3)] [] σ s3 ∧ ((s3.1.1 9 3 = 1 ∧ (z ≤ num B (h + 64 * i) 4 ∨ tEnd B (z - num B (h + 64 * i) 4) (a + num B (h + 64 * i) 4) = none)) ∨ ∃ e, num B (h + 64 * i) 4 < z ∧ tEnd B (z - num B (h + 64 * i) 4) (a + num B (h + 64 * i) 4) = some e ∧ v = nI (a + num B (h + 64 * i) 4) ∧ s3.1.1 9 3 = 0 ∧ s3.1.1 9 1 = nI (e + 1))) ?_ (fun v s3 e3 k3 => ?_)
      · rcases k2 with ⟨kf, ⟨k2, k3⟩ | ⟨k2, k3⟩⟩
        · have hx := gt_off (k := 9) (σ := s2) (by rw [k3]; decide)
          exact ⟨_, _, hx, fr_tr kf (fr_up (f_Cu_text hx) (by decide) (by decide)), Or.inl ⟨fi_at, Or.inl (by omega)⟩⟩
        · have hx := gt_ok k3
          rw [B2, show a + z - (a + num B (h + 64 * i) 4) = z - num B (h + 64 * i) 4 by omega] at hx
          cases ht : tEnd B (z - num B (h + 64 * i) 4) (a + num B (h + 64 * i) 4) with
          | none =>
            rw [ht] at hx
            exact ⟨_, _, hx, fr_tr kf (fr_up (f_Cu_text hx) (by decide) (by decide)), Or.inl ⟨fi_at, Or.inr rfl⟩⟩
          | some e =>
            rw [ht] at hx
            have := tEnd_lt ht
            exact ⟨_, _, hx, fr_tr kf (fr_up (f_Cu_text hx) (by decide) (by decide)), Or.inr ⟨e, by omega, rfl, rfl, (fi_no (Or.inl (by decide))).trans k3.2.2.1, fi_at⟩⟩
      · obtain ⟨kf, k3⟩ := k3
        have hpk := pe_ok (p := h + 64 * i) (m := 4) (σ := τ) (by omega) (by decide)
        rw [hb2] at hpk
        rw [show g_Mo_peek (nI (h + 64 * i)) 4 τ = _ from hpk, bd_t]
        rcases k3 with ⟨k3, k4⟩ | ⟨e, k3, k4, k5, k6, k7⟩
        · rw [if_neg (by rw [k3]; decide)]
          by_cases c : num B (h + 64 * i) 4 < z
          · have k4 := k4.resolve_left (by omega)
            rw [if_pos ((cmp_lt _ _).mpr ((lNl (by omega) (by omega)).mpr c)), lN_i, nI_add]
            have hte := te_ok (p := a + num B (h + 64 * i) 4) (q := a + z) (σ := τ) (by omega) (by omega)
            rw [hb2, show a + z - (a + num B (h + 64 * i) 4) = z - num B (h + 64 * i) 4 by omega, k4] at hte
            rw [hte, bd_t]
            unfold g_Mo_names_39 g_Mo_names_165 g_Mo_names_176
            rw [if_pos (by decide), if_pos rfl, if_pos rfl, show z01 0 = true from by decide, gd_t, bd_t, hnx]
            exact R2_p (Or.inl ⟨rfl, rfl⟩)
          · rw [if_neg (fun q => c ((lNl (by omega) (by omega)).mp ((cmp_lt _ _).mp q))), bd_t, hnx]
            exact R2_p (Or.inl ⟨rfl, rfl⟩)
        · rw [if_pos k6, if_pos ((cmp_lt _ _).mpr ((lNl (by omega) (by omega)).mpr k3)), lN_i, nI_add, k5, k7]
          have hte := te_ok (p := a + num B (h + 64 * i) 4) (q := a + z) (σ := τ) (by omega) (by omega)
          rw [hb2, show a + z - (a + num B (h + 64 * i) 4) = z - num B (h + 64 * i) 4 by omega, k4] at hte
          rw [hte, bd_t, show nI (e + 1) - 1 = nI e from nI_pred e]
          have hlt := tEnd_lt k4
          have hnz := tEnd_nz k4
          have S3 : SR s3 τ := fun k hk => by
            rw [fr_b kf (k := 8) (by decide), fr_b kf (k := 6) (by decide), fr_b kf (k := 7) (by decide)]
            exact hS k hk
          unfold g_Se_choose
          refine R2_b (ch_l (B := B) (p := h + 64 * i) (f := a + num B (h + 64 * i) 4) (e := e) (i := i) hl (by omega) (by omega) (by omega) hnz.1 (hL i (by omega)) (by omega) 10 0 rfl s3 τ 4000 4000 (by omega) (by omega) S3 ((fr_b kf (by decide)).trans hb1) hb2 hs ?_ ?_) (fun _ s4 b t4 e4 e5 k8 => ?_)
          · rw [fr_b kf (by decide)]
            exact T2.2.1
          · rw [fr_b kf (by decide)]
            exact T2.2.2
          · obtain ⟨rfl, k8⟩ := k8
            have g4 := f_Se_choose_3 _ e4
            have g5 := f_Mo_names_39 _ e5
            have g4' := fr_tr (fr_up (W' := [(9, 1), (9, 2), (9, 3)]) (A' := [6, 7, 8]) kf (fun _ h => h) (fun _ h => by cases h)) (fr_up g4 (fun _ h => by cases h) (fun _ h => h))
            rw [show nI i + 1 = nI (i + 1) from nI_add i 1]
            refine ih (i + 1) (by omega) s4 t4 k8 ((fr_b g4' (by decide)).trans hb1) ((fr_b g5 (by decide)).trans hb2) ((fr_c g5 (by decide)).trans hs) ((fr_i g4' (by decide)).trans h8) ((fr_i g4' (by decide)).trans h10) (fun m hm => ?_) ((fr_i g5 (by decide)).trans h9) n (n' + 1) (by omega) (by omega)
            unfold TB
            rw [fr_c g4' (by decide), fr_b g4' (k := 3) (by decide), fr_b g4' (k := 4) (by decide)]
            exact hT m hm

/-- phase 1 -/
theorem ph1 {len : Nat} {σ τ : am_S} (hl : len ≤ 3000) (h3 : τ.1.1 0 3 = nI len) (hB : BS (σ.2.1 1)) (hb : τ.2.1 2 = σ.2.1 1) (hs : SPE τ) : R2 (g_Se_read (nI len) σ) (g_Mo_readSections τ) (fun a s b t => (a = 0 ∧ b = 0) ∨ (a = 1 ∧ b = 1 ∧ SR s t ∧ s.1.1 2 8 = t.1.1 0 9)) := by
  unfold g_Se_read
  refine R2_l (rh_c hl) (fun v s e k => ?_)
  have fr := f_Se_readHead e
  obtain ⟨k0, k⟩ := k
  rcases k with ⟨e1, k⟩ | ⟨e1, t, h, ni, k, k8, k9, k10⟩
  · rw [e1, if_pos rfl]
    refine R2_2 (rs_m hl h3 (by rw [hb]; exact hB) (fun _ t => R1_p (Or.inl ⟨rfl, rfl⟩)) (fun t h n H => ?_))
    rw [hb] at H
    exact absurd H (k t h n)
  · rw [e1, if_neg (by decide)]
    have Bs : s.2.1 1 = σ.2.1 1 := by rw [k0]
    refine R2_2 (rs_m hl h3 (by rw [hb]; exact hB) (fun q t => absurd k (by rw [hb] at q; exact q _ _ _)) (fun t' h' n' H => ?_))
    rw [hb] at H
    obtain ⟨H0, H1, H2, H3, H4, H5, H6, H7, H8, H9⟩ := H
    obtain ⟨K0, K1, K2, K3, K4, K5, K6, K7, K8, K9⟩ := k
    obtain rfl : t = t' := by omega
    obtain rfl : h = h' := by omega
    obtain rfl : ni = n' := by omega
    refine R1_2 ?_
    obtain ⟨τ', c1, c2, c3⟩ := clr_m (x := nI h) 10 0 rfl (am_fi τ 0 9 (nI t)) (fun m hm => absurd hm (by omega)) 4000 (by omega)
    rw [show (0 : Int32) = nI 0 from rfl, c1]
    have b2 : τ'.2.1 2 = σ.2.1 1 := (fr_b c3 (by decide)).trans hb
    have t3 : τ'.1.1 0 3 = nI len := (fr_i c3 rfl).trans ((fi_no (Or.inl (by decide))).trans h3)
    have t9 : τ'.1.1 0 9 = nI t := (fr_i c3 rfl).trans fi_at
    have ts : SPE τ' := (fr_c c3 (by decide)).trans hs
    by_cases cL : ∀ m, m < t → LIE (σ.2.1 1) len (h + 64 * m)
    · refine R2_2 (ls_m (h := h) (t := t) (ni := ni) (len := len) hl t3 t9 (by rw [b2]; exact H6) H7 H0 H9 (fun q => absurd cL (by rw [b2] at q; exact q)) (fun _ => ?_) t 0 (by omega) (fun m hm => absurd hm (by omega)) 4000 (by omega))
      rw [b2]
      refine R1_2 (R2_1 ?_)
      refine rhd_c (B := σ.2.1 1) (h := h) (t := t) (len := len) (y := nI ni) hl H5 H9 (fun q => absurd cL q) (fun _ s' q8 q10 qB qT => ?_) t 0 (by omega) s k8 k9 k10 Bs (fun m hm => absurd hm (by omega)) 4000 (by omega)
      refine R1_1 ?_
      unfold g_Se_readNames
      obtain ⟨σ', d1, d2, d3⟩ := clr_c 10 0 rfl s' (fun m hm => absurd hm (by omega)) 4000 (by omega)
      rw [show (0 : Int32) = nI 0 from rfl, d1]
      have hSR : SR σ' τ' := fun m hm => ⟨(d2 m hm).2.2.trans (c2 m hm).2.2.symm, 0, 0, (d2 m hm).1, (d2 m hm).2.1, (c2 m hm).1, (c2 m hm).2.1, by omega⟩
      have hN := na_l (B := σ.2.1 1) (h := h) (t := t) (ni := ni) (len := len) hl H5 H9 H7 cL t 0 (by omega) σ' τ' hSR ((fr_b d3 (by decide)).trans qB) b2 ts ((fr_i d3 rfl).trans q8) ((fr_i d3 rfl).trans q10) (fun m hm => by
        unfold TB
        rw [fr_c d3 (by decide), fr_b d3 (k := 3) (by decide), fr_b d3 (k := 4) (by decide)]
        exact qT m hm) t9 4000 4000 (by omega) (by omega)
      obtain ⟨a, s4, b, t4, e4, e5, P⟩ := hN
      rw [e4, bd_t, e5]
      have g4 := f_Se_readNames_37 _ e4
      rcases P with ⟨rfl, rfl⟩ | ⟨rfl, rfl, P, P9⟩
      · exact R2_p (Or.inl ⟨rfl, rfl⟩)
      · exact R2_p (Or.inr ⟨rfl, rfl, P, by rw [fr_i g4 (by decide), P9, fr_i d3 (by decide), q8]⟩)
    · refine R2_2 (ls_m (h := h) (t := t) (ni := ni) (len := len) hl t3 t9 (by rw [b2]; exact H6) H7 H0 H9 (fun _ => ?_) (fun q => absurd (by rw [b2] at q; exact q) cL) t 0 (by omega) (fun m hm => absurd hm (by omega)) 4000 (by omega))
      exact rhd_c (B := σ.2.1 1) (h := h) (t := t) (len := len) (y := nI ni) hl H5 H9 (fun _ s => Or.inl ⟨rfl, rfl⟩) (fun q => absurd q cL) t 0 (by omega) s k8 k9 k10 Bs (fun m hm => absurd hm (by omega)) 4000 (by omega)
