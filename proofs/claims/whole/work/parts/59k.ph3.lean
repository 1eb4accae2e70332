/-! one entry's values, both sides -/
def bn' (bnd : Nat → Nat) (e r : Nat) : Nat → Nat := fun i => if i = e + 1 then r else bnd i
theorem en3 {σ τ : am_S} {N U e : Nat} {fs A Z bnd : Nat → Nat} {K : Int32 → am_S → Option (Int32 × am_S)} {M : Int32 → Int32 → am_S → Option (Int32 × am_S)} {Q : Int32 → am_S → Int32 → am_S → Prop} (h : ST3 σ τ N U fs A Z e bnd) (he : e < N) (hU : LK (σ.2.2 11 e) → cU τ e)
    (hok : ∀ s t r, ST3 s t N U fs A Z (e + 1) (bn' bnd e r) → (s.2.2 11 = σ.2.2 11 ∧ t.2.1 17 = τ.2.1 17 ∧ t.2.1 20 = τ.2.1 20) → R2 (K (nI (e + 1)) s) (M 1 (nI (e + 1)) t) Q)
    (hno : ∀ s t, ¬ s.1.1 37 6 = 0 → t.1.1 0 22 = nI N → R2 (K (nI (e + 1)) s) (M 0 (nI (e + 1)) t) Q) :
    R2 (am_bd (g_Ra_begin (nI e) σ) fun _ σ12 => am_bd (g_En_isLookedAt (nI e) σ12) fun v16 σ16 => if v16 = 0 then g_Va_read_100 K (nI e) σ16 else am_bd (g_Va_resolve (nI e) σ16) fun _ σ20 => g_Va_read_100 K (nI e) σ20) (mB M (nI e) τ) Q := by
  obtain ⟨hE, hR, hb, hD, hW, hBN⟩ := h
  have hl := EV_l hE
  have he2 : e < 200 := by omega
  obtain ⟨u, hu, E⟩ := EV_en hE e he
  obtain ⟨E1, E2, E3, E4, E5, E6, E7, E8⟩ := E
  have hu4 := EV_u4 hE
  unfold g_Ra_begin
  rw [inb_nI he2 (by decide), gd_t, bd_t, nI_clamp (by omega), hR.2.1]
  have f0 : FR [] [35] σ (am_ai σ 35 e (nI (bnd e))) := fr_ai fr_rf (by simp)
  have g0 : FR [] [22] τ (am_ai τ 22 e (τ.1.1 0 33)) := fr_ai fr_rf (by simp)
  have hE0 := EV_fr hE f0 g0 (by decide) (by decide)
  have hR0 := RN_fr hR f0 g0 (by decide)
  have hmB := mB_eq (M := M) he2 E3
  -- the state after the entry, when nothing is wrong
  have fin : ∀ (s t : am_S) (r : Nat), FR (VW ++ [(32, 4), (37, 5), (38, 1), (38, 2), (38, 3)]) [16, 33, 34, 35] σ s → FR [(0, 33), (0, 37), (0, 6), (0, 7), (0, 8)] [22, 23, 24] τ t → s.1.1 37 6 = 0 → bnd e ≤ r → RN s t r → s.2.1 35 = (am_ai σ 35 e (nI (bnd e))).2.1 35 → t.2.1 22 = (am_ai τ 22 e (τ.1.1 0 33)).2.1 22 → (∀ i, (i < 7 * e ∨ 7 * e + 7 ≤ i) → s.2.2 16 i = σ.2.2 16 i) → DN s t N fs A Z e u → R2 (K (nI (e + 1)) (am_ai s 36 e (s.1.1 32 4))) (M 1 (nI (e + 1)) t) Q := by
    intro s t r fs' ft hb' hmo hR' h35 h22 h16 hDe
    have fS : FR (VW ++ [(32, 4), (37, 5), (38, 1), (38, 2), (38, 3)]) [16, 33, 34, 35, 36] σ (am_ai s 36 e (s.1.1 32 4)) := fr_ai (fr_up fs' (fun _ h => h) (by decide)) (by simp)
    have b1 : s.2.1 1 = σ.2.1 1 := fr_b fs' (by decide)
    have c11 : s.2.2 11 = σ.2.2 11 := fr_c fs' (by decide)
    refine hok (am_ai s 36 e (s.1.1 32 4)) t r ⟨EV_fr hE fS ft (by decide) (by decide), ?_, hb', fun i hi v hv ev => ?_, fun i hi hiN => ?_, fun i hi => ?_⟩ ⟨c11, fr_b ft (by decide), fr_b ft (by decide)⟩
    · have : bn' bnd e r (e + 1) = r := if_pos rfl
      rw [this]
      exact RN_fr hR' (fr_ai (W := []) (A := [36]) fr_rf (by simp)) (fr_rf (W := []) (A := [])) (by decide)
    · by_cases ci : i = e
      · subst ci
        rw [fr_b ft (by decide)] at ev
        have : u = v := (nI_eq (by omega) (by omega)).mp (E2.symm.trans ev)
        subst this
        intro hLK m hm hz
        have := hDe hLK m hm hz
        rw [show (am_ai s 36 i (s.1.1 32 4)).2.1 1 = s.2.1 1 from ai_r (by decide)]
        exact this
      · rw [fr_b ft (by decide)] at ev
        intro hLK m hm hz
        rw [fr_b ft (by decide)] at hz
        rw [show (am_ai s 36 e (s.1.1 32 4)).2.1 1 = σ.2.1 1 from (ai_r (by decide)).trans b1, rsv_fr ft (by decide), show (am_ai s 36 e (s.1.1 32 4)).2.2 16 (7 * i + m) = σ.2.2 16 (7 * i + m) from h16 _ (by omega)]
        exact hD i (by omega) v hv ev (by rw [show (am_ai s 36 e (s.1.1 32 4)).2.2 11 = σ.2.2 11 from c11] at hLK; exact hLK) m hm hz
    · intro hLK k hk hz
      rw [fr_b ft (by decide)] at hz
      rw [show (am_ai s 36 e (s.1.1 32 4)).2.2 16 (7 * i + k) = σ.2.2 16 (7 * i + k) from h16 _ (by omega), fr_c ft (by decide)]
      exact hW i (by omega) hiN (by rw [show (am_ai s 36 e (s.1.1 32 4)).2.2 11 = σ.2.2 11 from c11] at hLK; exact hLK) k hk hz
    · by_cases ci : i = e
      · subst ci
        have e1 : bn' bnd i r (i + 1) = r := if_pos rfl
        have e2 : bn' bnd i r i = bnd i := if_neg (by omega)
        rw [e1, e2]
        refine ⟨⟨hmo, hR'.1⟩, ?_, ?_, ?_⟩
        · rw [ai_r (by decide), h35, ai_at]
        · rw [ai_at, hR'.2.1]
        · rw [h22, ai_at, hR.2.2.1]
      · have e1 : bn' bnd e r (i + 1) = bnd (i + 1) := if_neg (by omega)
        have e2 : bn' bnd e r i = bnd i := if_neg (by omega)
        rw [e1, e2]
        obtain ⟨q0, q1, q2, q3⟩ := hBN i (by omega)
        refine ⟨q0, ?_, ?_, ?_⟩
        · rw [ai_r (by decide), h35, ai_no (Or.inr ci)]; exact q1
        · rw [ai_no (Or.inr ci), fr_b fs' (by decide)]; exact q2
        · rw [h22, ai_no (Or.inr ci)]; exact q3
  refine R2_l (la_c (σ := am_ai σ 35 e (nI (bnd e))) he2) (fun v s _ k => ?_)
  obtain ⟨rfl, k⟩ := k
  rcases k with ⟨rfl, hLK⟩ | ⟨rfl, hLK⟩
  · -- looked at
    have hLK : LK (σ.2.2 11 e) := hLK
    rw [if_neg i10, hmB.1 hLK]
    have hV0 : ∀ k, k < 7 → SV (am_ai σ 35 e (nI (bnd e))) (am_ai τ 22 e (τ.1.1 0 33)) (7 * e + k) (11 * e + k) := fun k hk => by
      obtain ⟨u', hu', E'⟩ := EV_en hE0 e he
      exact E'.2.2.2.2.2.1.1 hLK k hk
    have e13 : (am_ai σ 35 e (nI (bnd e))).2.1 13 e = nI u := by rw [ai_r (by decide)]; exact E1
    have e19 : (am_ai τ 22 e (τ.1.1 0 33)).2.1 19 e = nI u := by rw [ai_r (by decide)]; exact E2
    have e20 : (am_ai τ 22 e (τ.1.1 0 33)).2.1 20 = τ.2.1 20 := ai_r (by decide)
    have hU0 : cU (am_ai τ 22 e (τ.1.1 0 33)) e := by
      have := hU hLK
      unfold cU
      rw [show (am_ai τ 22 e (τ.1.1 0 33)).2.1 17 = τ.2.1 17 from ai_r (by decide), e20]
      exact this
    obtain ⟨_, s2, e2, F2, O2, P2⟩ := re_l hE0 hu he e13 hLK 7 0 rfl (am_ai σ 35 e (nI (bnd e))) fr_rf (fun _ _ => rfl) (Or.inl ⟨hb, fun m hm => absurd hm (by omega), fun m _ hm hz => by
      rw [e20] at hz
      exact hW e (Nat.le_refl _) he hLK m hm hz⟩) 4000 (by omega)
    have e2' : g_Va_resolve (nI e) (am_ai σ 35 e (nI (bnd e))) = some ((), s2) := e2
    rw [e2', bd_t]
    have hRI : RI (am_ai σ 35 e (nI (bnd e))) (am_ai τ 22 e (τ.1.1 0 33)) N U fs A Z e u := by
      refine ⟨hE0, he, hu, e19, fun k hk => (hV0 k hk).2.1, fun h17 m h1 h2 => ?_, fun h8 => ?_⟩
      · obtain ⟨u', hu', E'⟩ := EV_en hE0 e he
        have t17 : (am_ai σ 35 e (nI (bnd e))).2.2 11 e = 17 := by
          have := E'.2.2.1
          rw [h17] at this
          exact (tg_eq (c := 17) (by omega) (by omega)).mp this.symm
        have := (E'.2.2.2.2.2.1.2.2 t17 (m - 7) (by omega)).2.1
        rw [show 7 + (m - 7) = m by omega] at this
        exact this
      · have := (hV0 0 (by decide)).2.2 h8
        rw [show (am_ai τ 22 e (τ.1.1 0 33)).2.1 2 = σ.2.1 1 from (ai_r (by decide)).trans (EV_b hE).symm]
        rw [show (am_ai σ 35 e (nI (bnd e))).2.1 1 = σ.2.1 1 from ai_r (by decide)] at this
        exact this
    have hBe : (am_ai σ 35 e (nI (bnd e))).2.1 1 = (am_ai τ 22 e (τ.1.1 0 33)).2.1 2 := EV_b hE0
    obtain ⟨y3, t3, e3, G3, k3⟩ := ri_0 hRI
    unfold g_Mo_readValues_75 g_Mo_readValues_96 g_Mo_readValues_100 g_Mo_readValues_101
    rw [if_neg i10, e3, bd_t, show nI e + 1 = nI (e + 1) from nI_add e 1]
    have T22 : t3.1.1 0 22 = nI N := (fr_i G3 (by decide)).trans (EV_m hE0)
    rcases P2 with ⟨P2, P3⟩ | ⟨P2, m, hm, hz, hnone⟩
    · -- all lead somewhere
      have hall : cAll (am_ai τ 22 e (τ.1.1 0 33)) A Z N e u (fs u) := rsv_c hBe (fun m hm hz q => by rw [P3 m hm hz] at q; cases q) hU0
      rcases k3 with ⟨rfl, _⟩ | ⟨_, k3⟩
      · rw [if_neg i10]
        have hE2 : EV s2 t3 N U fs A Z := EV_fr (EV_fr hE0 F2 (fr_rf (W := []) (A := [])) (by decide) (by decide)) (fr_rf (W := []) (A := [])) G3 (by decide) (by decide)
        have s13 : s2.2.1 13 e = nI u := by rw [fr_b F2 (by decide)]; exact e13
        have t19 : t3.2.1 19 e = nI u := by rw [fr_b G3 (by decide)]; exact e19
        have sLK : LK (s2.2.2 11 e) := by rw [fr_c F2 (by decide)]; exact hLK
        have hV2 : ∀ k, k < 7 → SV s2 t3 (7 * e + k) (11 * e + k) := fun k hk => by
          obtain ⟨u', hu', E'⟩ := EV_en hE2 e he
          exact E'.2.2.2.2.2.1.1 sLK k hk
        have sb1 : s2.2.1 1 = σ.2.1 1 := (fr_b F2 (by decide)).trans (ai_r (by decide))
        have hDe : DN s2 t3 N fs A Z e u := fun _ m hm hz => by
          rw [fr_b G3 (by decide)] at hz
          rw [rsv_fr G3 (by decide), sb1]
          have := P3 m hm hz
          rw [show (am_ai σ 35 e (nI (bnd e))).2.1 1 = σ.2.1 1 from ai_r (by decide)] at this
          exact this
        have hDf : DN s2 t3 N fs A Z (fs u) u := by
          have hq6 := (EV_un hE u hu).2.2.2.2.2 e he u (by omega) E1
          have hfe : fs u ≤ e := hq6.mpr (Nat.le_refl _)
          by_cases cf : fs u = e
          · rw [cf]; rw [← cf]; rw [cf]; exact hDe
          · have q5 := (EV_un hE u hu).2.2.2.2.1 (EV_fl hE u hu)
            obtain ⟨uf, huf, Ef⟩ := EV_en hE (fs u) (EV_fl hE u hu)
            have huf' : uf = u := (nI_eq (by omega) (by omega)).mp (Ef.1.symm.trans q5.1)
            subst huf'
            intro hLf m hm hz
            rw [fr_b G3 (by decide), e20] at hz
            rw [rsv_fr G3 (by decide), rsv_fr g0 (by decide), sb1, O2 _ (Or.inl (by omega))]
            exact hD (fs uf) (by omega) uf hu Ef.2.1 (Or.inl q5.2) m hm hz
        have hR2 : RN s2 t3 (bnd e) := RN_fr (RN_fr hR0 F2 (fr_rf (W := []) (A := [])) (by decide)) (fr_rf (W := []) (A := [])) G3 (by decide)
        refine rr_l hE2 he hu s13 t19 sLK hV2 hR2 P2 hDe hDf (fun s t y f4 g4 hq => ?_)
        rw [re_e he2]
        rcases hq with ⟨rfl, hb4, r4, hr4, hR4⟩ | ⟨rfl, hb4⟩
        · rw [if_neg i10]
          have f5 : FR (VW ++ [(32, 4), (37, 5), (38, 1), (38, 2), (38, 3)]) [16, 33, 34, 35] σ s := fr_tr (fr_up f0 (fun _ h => by cases h) (by decide)) (fr_tr (fr_up F2 (by decide) (by decide)) (fr_up f4 (by decide) (by decide)))
          have g5 : FR [(0, 33), (0, 37), (0, 6), (0, 7), (0, 8)] [22, 23, 24] τ t := fr_tr (fr_up g0 (fun _ h => by cases h) (by decide)) (fr_tr (fr_up G3 (by decide) (fun _ h => by cases h)) (fr_up g4 (fun _ h => h) (by decide)))
          refine fin s t r4 f5 g5 hb4 hr4 hR4 ((fr_b f4 (by decide)).trans (fr_b F2 (by decide))) ((fr_b g4 (by decide)).trans (fr_b G3 (by decide))) (fun i hi => ?_) (fun hLs m hm hz => ?_)
          · rw [fr_c f4 (by decide), O2 i hi]
            rfl
          · rw [fr_b g4 (by decide)] at hz
            rw [rsv_fr g4 (by decide), fr_b f4 (by decide), fr_c f4 (by decide)]
            exact hDe sLK m hm hz
        · rw [if_pos rfl]
          exact hno _ t hb4 ((fr_i g4 (by decide)).trans T22)
      · exact absurd hall k3
    · -- something leads nowhere
      have hE2 : EV s2 (am_ai τ 22 e (τ.1.1 0 33)) N U fs A Z := EV_fr hE0 F2 (fr_rf (W := []) (A := [])) (by decide) (by decide)
      obtain ⟨s', e4, b4⟩ := rb_c (K := K) hE2 he hu (by rw [fr_b F2 (by decide)]; exact e13) hR.1 ((fr_i F2 (by decide)).trans hR.2.1) P2
      rw [e4]
      rcases k3 with ⟨rfl, hall⟩ | ⟨rfl, _⟩
      · rw [if_neg i10]
        have h3 := rsv_n hBe hm hz hnone hall
        subst h3
        have hE3 := EV_fr hE0 (fr_rf (W := []) (A := [])) G3 (by decide) (by decide)
        have t20 : t3.2.1 20 = (am_ai τ 22 e (τ.1.1 0 33)).2.1 20 := fr_b G3 (by decide)
        have hn2 : lsS ((am_ai σ 35 e (nI (bnd e))).2.1 1) A Z ((am_ai τ 22 e (τ.1.1 0 33)).2.1 20 (11 * e + 3)) ((am_ai τ 22 e (τ.1.1 0 33)).2.2 21 (11 * e + 3)) (bas (am_ai τ 22 e (τ.1.1 0 33)) (fs u) 10) = none := hnone
        rw [rr_0 hE3 he hu (by rw [fr_b G3 (by decide)]; exact e19) (by rw [t20]; exact (hV0 3 (by decide)).2.1) (by rw [t20]; exact hz) (by unfold c3; rw [t20]; exact hall.2.2.2.1) (by rw [t20, fr_c G3 (by decide), bas_fr G3 (by decide) (by decide), fr_b G3 (by decide), ← hBe]; exact hn2), bd_t, if_pos rfl]
        exact hno s' t3 b4 T22
      · rw [if_pos rfl]
        exact hno s' t3 b4 T22
  · -- not looked at
    have hLK' : ¬ LK (σ.2.2 11 e) := hLK
    rw [if_pos rfl, hmB.2 hLK']
    have z15 : ∀ k, k < 7 → (am_ai σ 35 e (nI (bnd e))).2.1 15 (7 * e + k) = 0 := fun k hk => by rw [ai_r (by decide)]; exact E6.2.1 hLK' k hk
    unfold g_Va_read_100 g_Mo_readValues_75 g_Mo_readValues_96 g_Mo_readValues_101
    rw [show g_En_has (nI e) 3 (am_ai σ 35 e (nI (bnd e))) = _ from ha_c (k := 3) he2 (by decide), bd_t, if_pos (z15 3 (by decide)), if_pos rfl, hp_c he2 (z15 3 (by decide)), bd_t, if_pos (Or.inl (z15 1 (by decide))), if_pos rfl, re_e he2, if_pos rfl, show nI e + 1 = nI (e + 1) from nI_add e 1]
    refine fin _ _ (bnd e) (fr_up f0 (fun _ h => by cases h) (by decide)) (fr_up g0 (fun _ h => by cases h) (by decide)) hb (Nat.le_refl _) hR0 rfl rfl (fun _ _ => rfl) (fun z => absurd z hLK)

/-! all entries -/
def VP (N U : Nat) (fs A Z : Nat → Nat) (x : Int32) (s : am_S) (y : Int32) (t : am_S) : Prop := (x = 0 ∧ y = 0) ∨ (x = 1 ∧ y = 1 ∧ ∃ bnd, ST3 s t N U fs A Z N bnd ∧ t.2.1 22 N = nI (bnd N))
theorem v58_b {n : Nat} {x : Int32} {s : am_S} (h : ¬ s.1.1 37 6 = 0) : g_Va_read_58 (n + 1) x s = some (0, s) := by
  unfold g_Va_read_58 g_Va_read_167 g_Va_read_179
  rw [if_neg h, if_neg h]
  simp only [ite_self]
  rfl
theorem v4_0 {n N : Nat} {x : Int32} {t : am_S} (hN : N ≤ 200) (h : t.1.1 0 22 = nI N) : g_Mo_readValues_4 (n + 1) 0 x t = some (0, am_ai t 22 N (t.1.1 0 33)) := by
  unfold g_Mo_readValues_4 g_Mo_readValues_108
  rw [if_pos rfl, h, inb_nI (by omega) (by decide), nI_clamp (by omega)]
  simp only [ite_self]
  rfl
theorem v4_e {n e N : Nat} {t : am_S} (he : e < N) (hN : N ≤ 200) (h : t.1.1 0 22 = nI N) : g_Mo_readValues_4 (n + 1) 1 (nI e) t = mB (g_Mo_readValues_4 n) (nI e) t := by
  rw [g_Mo_readValues_4, h, if_pos (nI_lt (by omega) (by omega)), if_neg i10]
  rfl
theorem vl_l {N U : Nat} {fs A Z : Nat → Nat} : ∀ j e, e + j = N → ∀ (σ τ : am_S) (bnd : Nat → Nat), ST3 σ τ N U fs A Z e bnd → (∀ i, i < N → LK (σ.2.2 11 i) → cU τ i) → ∀ n n', j + 1 < n → j + 1 < n' → R2 (g_Va_read_58 n (nI e) σ) (g_Mo_readValues_4 n' 1 (nI e) τ) (VP N U fs A Z) := by
  intro j
  induction j with
  | zero =>
    intro e he σ τ bnd h hU n n' hn hn'
    obtain ⟨n, rfl⟩ : ∃ z, n = z + 1 := ⟨n - 1, by omega⟩
    obtain ⟨n', rfl⟩ : ∃ z, n' = z + 1 := ⟨n' - 1, by omega⟩
    obtain rfl : e = N := by omega
    have hl := EV_l h.1
    unfold g_Va_read_58 g_Va_read_167 g_Va_read_179 g_Mo_readValues_4 g_Mo_readValues_108
    rw [EV_n h.1, EV_m h.1, if_neg (nI_nlt (Nat.le_refl _) (by omega)), if_neg (nI_nlt (Nat.le_refl _) (by omega)), if_pos h.2.2.1, inb_nI (by omega) (by decide), nI_clamp (by omega), h.2.1.2.2.1]
    refine R2_p (Or.inr ⟨rfl, rfl, bnd, ?_, ai_at⟩)
    have g0 : FR [] [22] τ (am_ai τ 22 e (nI (bnd e))) := fr_ai fr_rf (by simp)
    obtain ⟨h1, h2, h3, h4, h5, h6⟩ := h
    refine ⟨EV_fr h1 (fr_rf (W := []) (A := [])) g0 (by decide) (by decide), RN_fr h2 (fr_rf (W := []) (A := [])) g0 (by decide), h3, fun i hi u hu eu hLK m hm hz => ?_, fun i h1 h2 => by omega, fun i hi => ?_⟩
    · rw [fr_b g0 (by decide)] at eu hz
      rw [rsv_fr g0 (by decide)]
      exact h4 i hi u hu eu hLK m hm hz
    · obtain ⟨q0, q1, q2, q3⟩ := h6 i hi
      exact ⟨q0, q1, q2, by rw [ai_no (Or.inr (by omega))]; exact q3⟩
  | succ j ih =>
    intro e he σ τ bnd h hU n n' hn hn'
    obtain ⟨n, rfl⟩ : ∃ z, n = z + 2 := ⟨n - 2, by omega⟩
    obtain ⟨n', rfl⟩ : ∃ z, n' = z + 2 := ⟨n' - 2, by omega⟩
    have hl := EV_l h.1
    rw [v4_e (by omega) hl (EV_m h.1), g_Va_read_58, EV_n h.1, if_pos (nI_lt (by omega) (by omega)), if_pos h.2.2.1]
    refine R2_m (P := fun x s y t => VP N U fs A Z x s y t) (en3 h (by omega) (hU e (by omega)) (fun s t r hS hX => ?_) (fun s t hb h22 => ?_)) (fun _ _ _ _ _ _ z => z)
    · refine ih (e + 1) (by omega) s t _ hS (fun i hi hLK => ?_) (n + 1) (n' + 1) (by omega) (by omega)
      unfold cU
      rw [hX.2.1, hX.2.2]
      rw [hX.1] at hLK
      exact hU i hi hLK
    · rw [v58_b hb, v4_0 hl h22]
      exact R2_p (Or.inl ⟨rfl, rfl⟩)

theorem RI_of {σ τ : am_S} {N U e : Nat} {fs A Z : Nat → Nat} (h : EV σ τ N U fs A Z) (he : e < N) (hLK : LK (σ.2.2 11 e)) : ∃ u, RI σ τ N U fs A Z e u := by
  obtain ⟨u, hu, E⟩ := EV_en h e he
  obtain ⟨E1, E2, E3, E4, E5, E6, E7, E8⟩ := E
  refine ⟨u, h, he, hu, E2, fun k hk => (E6.1 hLK k hk).2.1, fun h17 m h1 h2 => ?_, fun h8 => ?_⟩
  · rw [h17] at E3
    have := (E6.2.2 ((tg_eq (c := 17) (by omega) (by omega)).mp E3.symm) (m - 7) (by omega)).2.1
    rw [show 7 + (m - 7) = m by omega] at this
    exact this
  · rw [← EV_b h]
    exact (E6.1 hLK 0 (by decide)).2.2 h8
theorem vl_0 {N U : Nat} {fs A Z : Nat → Nat} : ∀ j e, e + j = N → ∀ (σ τ : am_S) (bnd : Nat → Nat), ST3 σ τ N U fs A Z e bnd → (¬ ∀ i, e ≤ i → i < N → LK (σ.2.2 11 i) → cU τ i) → ∀ n, j + 1 < n → R1 (g_Mo_readValues_4 n 1 (nI e) τ) (fun y _ => y = 0) := by
  intro j
  induction j with
  | zero =>
    intro e he σ τ bnd h hU n hn
    exact absurd (fun i h1 h2 => by omega) hU
  | succ j ih =>
    intro e he σ τ bnd h hU n hn
    obtain ⟨n, rfl⟩ : ∃ z, n = z + 2 := ⟨n - 2, by omega⟩
    have hl := EV_l h.1
    rw [v4_e (by omega) hl (EV_m h.1)]
    by_cases cE : LK (σ.2.2 11 e) → cU τ e
    · have := en3 (K := fun _ s => some ((0 : Int32), s)) (M := g_Mo_readValues_4 (n + 1)) (Q := fun _ _ y _ => y = 0) h (by omega) cE (fun s t r hS hX => ?_) (fun s t hb h22 => ?_)
      · obtain ⟨_, _, y, t, _, e2, q⟩ := this
        exact ⟨y, t, e2, q⟩
      · have := ih (e + 1) (by omega) s t _ hS (fun q => hU (fun i h1 h2 hLK => ?_)) (n + 1) (by omega)
        · exact R2_of (P := fun _ _ => True) (R1_p trivial) this (fun _ _ _ _ _ _ _ z => z)
        · by_cases ci : i = e
          · rw [ci] at hLK ⊢
            exact cE hLK
          · have := q i (by omega) h2 (by rw [hX.1]; exact hLK)
            unfold cU at this
            rw [hX.2.1, hX.2.2] at this
            exact this
      · rw [v4_0 hl h22]
        exact R2_p rfl
    · have hLK : LK (σ.2.2 11 e) := Classical.byContradiction (fun z => cE (fun w => absurd w z))
      have hnU : ¬ cU τ e := fun z => cE (fun _ => z)
      obtain ⟨_, _, E⟩ := EV_en h.1 e (by omega)
      rw [(mB_eq (by omega) E.2.2.1).1 hLK]
      have g0 : FR [] [22] τ (am_ai τ 22 e (τ.1.1 0 33)) := fr_ai fr_rf (by simp)
      have hE0 := EV_fr h.1 (fr_rf (W := []) (A := [])) g0 (by decide) (by decide)
      obtain ⟨u, hRI⟩ := RI_of hE0 (by omega) hLK
      unfold g_Mo_readValues_75 g_Mo_readValues_100 g_Mo_readValues_101
      rw [if_neg i10]
      refine R1_b (ri_0 hRI) (fun y t _ k => ?_)
      obtain ⟨G, k⟩ := k
      rcases k with ⟨rfl, k⟩ | ⟨rfl, k⟩
      · refine absurd ?_ hnU
        have := k.2.2.2.2.2.2.2
        unfold cU at this
        rw [fr_b g0 (by decide), fr_b g0 (by decide)] at this
        exact this
      · rw [if_pos rfl, v4_0 hl ((fr_i G (by decide)).trans (EV_m hE0))]
        exact R1_p rfl
theorem vu_l {N U : Nat} {σ : am_S} (hU : U ≤ 4) (h11 : σ.1.1 10 11 = nI U) : ∀ j i, i + j = 4 * U → (∀ m, m < i → σ.2.1 19 m = 0 ∨ σ.2.1 19 m = 23) → ∀ n, j < n → ((∀ m, m < 4 * U → σ.2.1 19 m = 0 ∨ σ.2.1 19 m = 23) ∧ g_Va_read_15 n (nI i) σ = g_Va_read_58 4000 (nI 0) σ) ∨ ((¬ ∀ m, m < 4 * U → σ.2.1 19 m = 0 ∨ σ.2.1 19 m = 23) ∧ g_Va_read_15 n (nI i) σ = some (0, σ)) := by
  intro j
  induction j with
  | zero =>
    intro i hi hm n hn
    obtain ⟨n, rfl⟩ : ∃ z, n = z + 1 := ⟨n - 1, by omega⟩
    rw [g_Va_read_15, h11, show nI U * 4 = nI (4 * U) from (pk_mul U 4).trans (by rw [Nat.mul_comm]), if_neg (nI_nlt (by omega) (by omega))]
    exact Or.inl ⟨fun m h => hm m (by omega), rfl⟩
  | succ j ih =>
    intro i hi hm n hn
    obtain ⟨n, rfl⟩ : ∃ z, n = z + 1 := ⟨n - 1, by omega⟩
    unfold g_Va_read_15 g_Va_read_50
    rw [h11, show nI U * 4 = nI (4 * U) from (pk_mul U 4).trans (by rw [Nat.mul_comm]), if_pos (nI_lt (by omega) (by omega)), inb_nI (by omega) (by decide), gd_t, nI_clamp (by omega), show nI i + 1 = nI (i + 1) from nI_add i 1]
    by_cases c0 : σ.2.1 19 i = 0
    · rw [if_pos c0]
      exact ih (i + 1) (by omega) (lt_s hm (Or.inl c0)) n (by omega)
    · rw [if_neg c0]
      by_cases c23 : σ.2.1 19 i = 23
      · rw [if_pos c23]
        exact ih (i + 1) (by omega) (lt_s hm (Or.inr c23)) n (by omega)
      · rw [if_neg c23]
        exact Or.inr ⟨fun z => (z i (by omega)).elim c0 c23, rfl⟩
theorem uok {σ τ : am_S} {N U : Nat} {fs A Z : Nat → Nat} (h : EV σ τ N U fs A Z) : (∀ m, m < 4 * U → σ.2.1 19 m = 0 ∨ σ.2.1 19 m = 23) ↔ (∀ i, 0 ≤ i → i < N → LK (σ.2.2 11 i) → cU τ i) := by
  have hu4 := EV_u4 h
  constructor
  · intro H i _ hi hLK h17 m h1 h2
    obtain ⟨u, hu, E⟩ := EV_en h i hi
    have E3 := E.2.2.1
    rw [h17] at E3
    have := (E.2.2.2.2.2.1.2.2 ((tg_eq (c := 17) (by omega) (by omega)).mp E3.symm) (m - 7) (by omega)).1
    rw [show 7 + (m - 7) = m by omega] at this
    rw [← this]
    exact H (4 * u + (m - 7)) (by omega)
  · intro H m hm
    have hu : m / 4 < U := by omega
    have hf := EV_fl h (m / 4) hu
    obtain ⟨q1, q2, q3, q4, q5, q6⟩ := EV_un h (m / 4) hu
    obtain ⟨q5, q7⟩ := q5 hf
    obtain ⟨u', hu', E⟩ := EV_en h (fs (m / 4)) hf
    have huf : u' = m / 4 := (nI_eq (by omega) (by omega)).mp (E.1.symm.trans q5)
    have hs := (E.2.2.2.2.2.1.2.2 q7 (m % 4) (by omega)).1
    rw [huf, show 4 * (m / 4) + m % 4 = m by omega] at hs
    rw [hs]
    refine H (fs (m / 4)) (by omega) hf (Or.inl q7) ?_ (7 + m % 4) (by omega) (by omega)
    rw [E.2.2.1, q7]
    rfl
/-- phase 3 -/
theorem ph3 {σ τ : am_S} {N U : Nat} {fs A Z : Nat → Nat} (h : EV σ τ N U fs A Z) (hW : ∀ e, e < N → RAW σ τ e) (h33 : τ.1.1 0 33 = 0) : R2 (g_Va_read σ) (g_Mo_readValues τ) (VP N U fs A Z) := by
  have f0 : FR [(37, 6), (32, 4)] [] σ (am_fi (am_fi σ 37 6 0) 32 4 0) := fr_fi (fr_fi fr_rf (by simp)) (by simp)
  have hE := EV_fr h f0 (fr_rf (W := []) (A := [])) (by decide) (by decide)
  have hS : ST3 (am_fi (am_fi σ 37 6 0) 32 4 0) τ N U fs A Z 0 (fun _ => 0) := ⟨hE, ⟨Nat.zero_le _, fi_at, h33, fun i hi => absurd hi (Nat.not_lt_zero i)⟩, by rw [fi_no (Or.inl (by decide)), fi_at], fun i hi => absurd hi (by omega), fun i _ hi => hW i hi, fun i hi => absurd hi (by omega)⟩
  have hl := EV_l h
  unfold g_Va_read g_Mo_readValues
  rcases vu_l (N := N) (EV_u4 hE) (EV_u hE) (4 * U) 0 (by omega) (fun m hm => absurd hm (by omega)) 4000 (by have := EV_u4 h; omega) with ⟨c, e⟩ | ⟨c, e⟩
  · rw [show (0 : Int32) = nI 0 from rfl] at *
    rw [e]
    exact vl_l N 0 (by omega) _ τ _ hS (fun i hi => (uok hE).mp c i (by omega) hi) 4000 4000 (by omega) (by omega)
  · rw [show (0 : Int32) = nI 0 from rfl] at *
    rw [e]
    refine R2_of (P := fun x _ => x = 0) (R1_p rfl) (vl_0 N 0 (by omega) _ τ _ hS (fun z => c ((uok hE).mpr z)) 4000 (by omega)) (fun _ _ _ _ _ _ a b => Or.inl ⟨a, b⟩)
