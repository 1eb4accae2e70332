/-! the units, both sides -/
def UL (σ τ : am_S) (N U : Nat) (fs : Nat → Nat) : Prop := (σ.2.1 1 = τ.2.1 2) ∧ (SR σ τ) ∧ (σ.1.1 10 10 = nI N) ∧ (τ.1.1 0 22 = nI N) ∧ (N ≤ 200) ∧ (σ.1.1 10 11 = nI U) ∧ (τ.1.1 0 21 = nI U) ∧ (U ≤ 4) ∧ (∀ e, e < N → ∃ u, u < U ∧ EN1 σ τ e u) ∧ (∀ u, u < U → UN1 σ τ N u (fs u)) ∧ (∀ u, u < U → fs u < N)
theorem UL_b {σ τ : am_S} {N U : Nat} {fs : Nat → Nat} (h : UL σ τ N U fs) : σ.2.1 1 = τ.2.1 2 := h.1
theorem UL_sr {σ τ : am_S} {N U : Nat} {fs : Nat → Nat} (h : UL σ τ N U fs) : SR σ τ := h.2.1
theorem UL_n {σ τ : am_S} {N U : Nat} {fs : Nat → Nat} (h : UL σ τ N U fs) : σ.1.1 10 10 = nI N := h.2.2.1
theorem UL_m {σ τ : am_S} {N U : Nat} {fs : Nat → Nat} (h : UL σ τ N U fs) : τ.1.1 0 22 = nI N := h.2.2.2.1
theorem UL_l {σ τ : am_S} {N U : Nat} {fs : Nat → Nat} (h : UL σ τ N U fs) : N ≤ 200 := h.2.2.2.2.1
theorem UL_u {σ τ : am_S} {N U : Nat} {fs : Nat → Nat} (h : UL σ τ N U fs) : σ.1.1 10 11 = nI U := h.2.2.2.2.2.1
theorem UL_v {σ τ : am_S} {N U : Nat} {fs : Nat → Nat} (h : UL σ τ N U fs) : τ.1.1 0 21 = nI U := h.2.2.2.2.2.2.1
theorem UL_u4 {σ τ : am_S} {N U : Nat} {fs : Nat → Nat} (h : UL σ τ N U fs) : U ≤ 4 := h.2.2.2.2.2.2.2.1
theorem UL_en {σ τ : am_S} {N U : Nat} {fs : Nat → Nat} (h : UL σ τ N U fs) : ∀ e, e < N → ∃ u, u < U ∧ EN1 σ τ e u := h.2.2.2.2.2.2.2.2.1
theorem UL_un {σ τ : am_S} {N U : Nat} {fs : Nat → Nat} (h : UL σ τ N U fs) : ∀ u, u < U → UN1 σ τ N u (fs u) := h.2.2.2.2.2.2.2.2.2.1
theorem UL_fl {σ τ : am_S} {N U : Nat} {fs : Nat → Nat} (h : UL σ τ N U fs) : ∀ u, u < U → fs u < N := h.2.2.2.2.2.2.2.2.2.2
theorem SR_fr {W W' : List (Nat × Nat)} {A A' : List Nat} {σ τ s t : am_S} (h : SR σ τ) (f : FR W A σ s) (g : FR W' A' τ t) (n : (A.contains 6 || A.contains 7 || A.contains 8 || A'.contains 3 || A'.contains 4 || A'.contains 5) = false) : SR s t := by
  simp only [Bool.or_eq_false_iff] at n
  obtain ⟨⟨⟨⟨⟨n1, n2⟩, n3⟩, n4⟩, n5⟩, n6⟩ := n
  unfold SR
  rw [fr_b f n1, fr_b f n2, fr_b f n3, fr_b g n4, fr_b g n5, fr_b g n6]
  exact h
theorem UL_fr {W W' : List (Nat × Nat)} {A A' : List Nat} {σ τ s t : am_S} {N U : Nat} {fs : Nat → Nat} (h : UL σ τ N U fs) (f : FR W A σ s) (g : FR W' A' τ t) (n : (A.contains 6 || A.contains 7 || A.contains 8 || A'.contains 3 || A'.contains 4 || A'.contains 5) = false) (n1 : ([11, 12, 13, 14, 15, 16, 17, 18, 19, 20].all (fun k => !A.contains k) && [13, 14, 16, 17, 18, 19, 20, 21].all (fun k => !A'.contains k)) = true) (n2 : (A.contains 1 || A'.contains 2 || W.contains (10, 10) || W.contains (10, 11) || W'.contains (0, 22) || W'.contains (0, 21)) = false) : UL s t N U fs := by
  simp only [Bool.or_eq_false_iff] at n2
  obtain ⟨⟨⟨⟨⟨m1, m2⟩, m3⟩, m4⟩, m5⟩, m6⟩ := n2
  simp only [List.all_cons, List.all_nil, Bool.and_true, Bool.and_eq_true, Bool.not_eq_true', List.contains_eq_mem, decide_eq_false_iff_not] at n1
  obtain ⟨⟨a1, a2, a3, a4, a5, a6, a7, a8, a9, a10⟩, b1, b2, b3, b4, b5, b6, b7, b8⟩ := n1
  have KC : ∀ M L V, KEL (CL M L V) σ s := fun M L V => KEL_fr f (by simp only [CL, List.mem_cons, List.not_mem_nil, or_false]; rintro x (rfl | rfl | rfl | rfl | rfl | rfl | rfl | rfl | rfl | rfl) <;> assumption)
  have KM : ∀ M V, KEL (ML M V) τ t := fun M V => KEL_fr g (by simp only [ML, List.mem_cons, List.not_mem_nil, or_false]; rintro x (rfl | rfl | rfl | rfl | rfl | rfl | rfl | rfl) <;> assumption)
  refine ⟨(fr_b f m1).trans ((UL_b h).trans (fr_b g m2).symm), SR_fr (UL_sr h) f g n, (fr_i f m3).trans (UL_n h), (fr_i g m5).trans (UL_m h), UL_l h, (fr_i f m4).trans (UL_u h), (fr_i g m6).trans (UL_v h), UL_u4 h, fun e he => ?_, fun u hu => UN1_up (L := 0) (UL_un h u hu) hu (KC N 0 U) (KM N U), UL_fl h⟩
  obtain ⟨u, hu, E⟩ := UL_en h e he
  exact ⟨u, hu, EN1_up E he (Nat.le_refl (4 * u + 4)) hu (KC N _ U) (KM N U) (fr_b f m1)⟩
/-! a new unit, class -/
theorem au_l {U : Nat} (hU : U < 4) : ∀ j k, k + j = 4 → ∀ (σ : am_S), σ.1.1 10 11 = nI U → (∀ m, m < k → σ.2.1 19 (4 * U + m) = 0 ∧ σ.2.2 20 (4 * U + m) = 0) → ∀ n, j < n → R1 (g_En_addUnit_25 n (nI k) σ) (fun _ s => s.1.1 10 11 = nI (U + 1) ∧ FR [(10, 11)] [19, 20] σ s ∧ NR [(19, 4 * U), (20, 4 * U)] σ s ∧ ∀ m, m < 4 → s.2.1 19 (4 * U + m) = 0 ∧ s.2.2 20 (4 * U + m) = 0) := by
  intro j
  induction j with
  | zero =>
    intro k hk σ h hz n hn
    obtain ⟨n, rfl⟩ : ∃ z, n = z + 1 := ⟨n - 1, by omega⟩
    rw [g_En_addUnit_25, if_neg (show ¬ nI k < 4 from nI_nlt (b := 4) (by omega) (by omega)), h, show nI U + 1 = nI (U + 1) from nI_add U 1]
    exact R1_p ⟨fi_at, fr_fi fr_rf (by simp), NR_rf, fun m hm => hz m (by omega)⟩
  | succ j ih =>
    intro k hk σ h hz n hn
    obtain ⟨n, rfl⟩ : ∃ z, n = z + 1 := ⟨n - 1, by omega⟩
    rw [g_En_addUnit_25, if_pos (show nI k < 4 from nI_lt (b := 4) (by omega) (by omega)), h, show nI U * 4 = nI (4 * U) from (pk_mul U 4).trans (by rw [Nat.mul_comm]), nI_add, inb_nI (by omega) (by decide), gd_t, gd_t, nI_clamp (by omega), show nI k + 1 = nI (k + 1) from nI_add k 1]
    refine R1_m (ih (k + 1) (by omega) (am_al (am_ai σ 19 (4 * U + k) 0) 20 (4 * U + k) 0) h (fun m hm => ?_) n (by omega)) (fun _ s _ K => ⟨K.1, fr_tr (fr_al (fr_ai fr_rf (by simp)) (by simp)) K.2.1, NR_tr (NR_al (NR_ai NR_rf (L := 4 * U) (by simp) (by omega)) (L := 4 * U) (by simp) (by omega)) K.2.2.1, K.2.2.2⟩)
    by_cases c : m = k
    · rw [c, al_i, ai_at, al_at]
      exact ⟨rfl, rfl⟩
    · rw [aa_i (Or.inr (by omega)), aa_l (Or.inr (by omega))]
      exact hz m (by omega)
theorem au_c {N U : Nat} {pl : Int32} {σ : am_S} (hU : U < 4) (h10 : σ.1.1 10 10 = nI N) (h11 : σ.1.1 10 11 = nI U) : R1 (g_En_addUnit pl σ) (fun _ s => s.1.1 10 11 = nI (U + 1) ∧ FR [(10, 11)] [17, 18, 19, 20] σ s ∧ NR [(17, U), (18, U), (19, 4 * U), (20, 4 * U)] σ s ∧ (∀ m, m < 4 → s.2.1 19 (4 * U + m) = 0 ∧ s.2.2 20 (4 * U + m) = 0) ∧ s.2.1 17 U = pl ∧ s.2.1 18 U = nI N) := by
  unfold g_En_addUnit
  rw [h10, h11, inb_nI hU (by decide), gd_t, gd_t, nI_clamp (by omega)]
  refine R1_m (au_l hU 4 0 rfl _ ?_ (fun m hm => absurd hm (by omega)) 4000 (by omega)) (fun _ s _ K => ?_)
  · exact h11
  obtain ⟨K1, K2, K3, K4⟩ := K
  refine ⟨K1, fr_tr (fr_ai (fr_ai fr_rf (by simp)) (by simp)) (fr_up K2 (fun _ h => h) (by simp)), NR_tr (NR_ai (NR_ai NR_rf (L := U) (by simp) (Nat.le_refl _)) (L := U) (by simp) (Nat.le_refl _)) (NR_wk K3 (fun k L h => ⟨L, by simp at h; rcases h with h | h <;> simp [h], Nat.le_refl _⟩)), K4, ?_, ?_⟩
  · rw [fr_b K2 (by decide), ai_no (Or.inl (by decide)), ai_at]
  · rw [fr_b K2 (by decide), ai_at]
/-! the head of a unit -/
def MU (τ : am_S) : Prop := (∃ p q, RU τ p q false) ∨ ¬ τ.1.1 0 8 = 0
theorem mu_u {τ : am_S} {m : Nat} (h : MU τ) (h8 : m ≤ 8) : R1 (g_Mo_u (nI m) τ) (fun _ t => MU t) := by
  rcases h with ⟨p, q, h⟩ | h
  · by_cases c : p + m ≤ q
    · exact ⟨_, _, ru_ok h h8 c, Or.inl ⟨_, _, RU_1' h c⟩⟩
    · exact ⟨_, _, ru_bad h h8 (Or.inr (by omega)), Or.inr (by rw [fi_at]; decide)⟩
  · exact ⟨_, _, bmu h, Or.inr (by rw [fi_at]; decide)⟩
def rU_b (x1 : Int32) (σ : am_S) (v6 v10 v14 v18 : Int64) (σ18 : am_S) : Option (Int32 × am_S) :=
  if (σ18.1.1 0 8) = 0 then
    if (lg_cmp v6 5) = 0 then
      if (lg_cmp v10 1) = 0 then
        if (lg_cmp v14 8) = 0 then
          am_bd (g_Mo_readAbbreviations v18 σ18) fun v40 σ40 =>
          if v40 = 0 then
            g_Mo_readUnit_78 σ40
          else
            am_gd (inb (σ40.1.1 0 21) 4) <|
            am_gd (inb (σ40.1.1 0 21) 4) <|
            am_bd (g_Mo_readEntries (am_fi (am_ai (am_ai (am_fi (am_fi (am_fi σ40 0 6 (σ18.1.1 0 6)) 0 7 (σ.1.1 0 7)) 0 8 0) 13 (σ40.1.1 0 21).toNatClampNeg x1) 14 (σ40.1.1 0 21).toNatClampNeg (σ40.1.1 0 22)) 0 21 ((σ40.1.1 0 21) + 1))) fun v71 σ71 =>
            am_gd (z01 v71) <|
            some (v71, σ71)
        else
          g_Mo_readUnit_78 σ18
      else
        g_Mo_readUnit_78 σ18
    else
      g_Mo_readUnit_78 σ18
  else
    g_Mo_readUnit_78 σ18
theorem rU_eq {x1 : Int32} {σ : am_S} : g_Mo_readUnit x1 σ = am_bd (g_Mo_u 2 σ) fun v6 σ6 => am_bd (g_Mo_u 1 σ6) fun v10 σ10 => am_bd (g_Mo_u 1 σ10) fun v14 σ14 => am_bd (g_Mo_u 4 σ14) fun v18 σ18 => rU_b x1 σ v6 v10 v14 v18 σ18 := rfl
theorem rU_0 {x1 : Int32} {σ t : am_S} {v6 v10 v14 v18 : Int64} (h : ¬ (t.1.1 0 8 = 0 ∧ lg_cmp v6 5 = 0 ∧ lg_cmp v10 1 = 0 ∧ lg_cmp v14 8 = 0)) : rU_b x1 σ v6 v10 v14 v18 t = some (0, t) := by
  unfold rU_b g_Mo_readUnit_78
  by_cases c1 : t.1.1 0 8 = 0
  · by_cases c2 : lg_cmp v6 5 = 0
    · by_cases c3 : lg_cmp v10 1 = 0
      · by_cases c4 : lg_cmp v14 8 = 0
        · exact absurd ⟨c1, c2, c3, c4⟩ h
        · rw [if_pos c1, if_pos c2, if_pos c3, if_neg c4]
      · rw [if_pos c1, if_pos c2, if_neg c3]
    · rw [if_pos c1, if_neg c2]
  · rw [if_neg c1]
theorem rU_4 {x1 : Int32} {σ t : am_S} {v6 v10 v14 : Int64} (h : MU t) (hc : ¬ (lg_cmp v6 5 = 0 ∧ lg_cmp v10 1 = 0 ∧ lg_cmp v14 8 = 0) ∨ ¬ t.1.1 0 8 = 0) : R1 (am_bd (g_Mo_u 4 t) fun v18 σ18 => rU_b x1 σ v6 v10 v14 v18 σ18) (fun y _ => y = 0) := by
  rcases hc with hc | hc
  · refine R1_b (mu_u (m := 4) h (by omega)) (fun v s _ _ => ?_)
    rw [rU_0 (fun z => hc z.2)]
    exact R1_p rfl
  · rw [bmu hc, bd_t, rU_0 (fun z => absurd z.1 (by rw [fi_at]; decide))]
    exact R1_p rfl
theorem rU_3 {x1 : Int32} {σ t : am_S} {v6 v10 : Int64} (h : MU t) (hc : ¬ (lg_cmp v6 5 = 0 ∧ lg_cmp v10 1 = 0) ∨ ¬ t.1.1 0 8 = 0) : R1 (am_bd (g_Mo_u 1 t) fun v14 σ14 => am_bd (g_Mo_u 4 σ14) fun v18 σ18 => rU_b x1 σ v6 v10 v14 v18 σ18) (fun y _ => y = 0) := by
  rcases hc with hc | hc
  · exact R1_b (mu_u (m := 1) h (by omega)) (fun v s _ k => rU_4 k (Or.inl (fun z => hc ⟨z.1, z.2.1⟩)))
  · rw [bmu hc, bd_t]
    exact rU_4 (Or.inr (by rw [fi_at]; decide)) (Or.inr (by rw [fi_at]; decide))
theorem rU_2 {x1 : Int32} {σ t : am_S} {v6 : Int64} (h : MU t) (hc : ¬ (lg_cmp v6 5 = 0) ∨ ¬ t.1.1 0 8 = 0) : R1 (am_bd (g_Mo_u 1 t) fun v10 σ10 => am_bd (g_Mo_u 1 σ10) fun v14 σ14 => am_bd (g_Mo_u 4 σ14) fun v18 σ18 => rU_b x1 σ v6 v10 v14 v18 σ18) (fun y _ => y = 0) := by
  rcases hc with hc | hc
  · exact R1_b (mu_u (m := 1) h (by omega)) (fun v s _ k => rU_3 k (Or.inl (fun z => hc z.1)))
  · rw [bmu hc, bd_t]
    exact rU_3 (Or.inr (by rw [fi_at]; decide)) (Or.inr (by rw [fi_at]; decide))
theorem ab_cb {n i : Nat} {σ : am_S} (h : ¬ σ.1.1 31 3 = 0) : R1 (g_Ab_read_31_7 (n + 1) (nI i) σ) (fun v _ => v = 0) := by
  rw [g_Ab_read_31_7]
  by_cases c : 40 < nI i
  · rw [if_pos c]; exact R1_p rfl
  · rw [if_neg c]
    refine R1_b (R1ul h) (fun v s _ k => ?_)
    rw [if_neg k.2.1]
    exact R1_p rfl
theorem ab_mb {n : Nat} {τ : am_S} (h : ¬ τ.1.1 0 8 = 0) : R1 (g_Mo_readAbbreviations_16 (n + 2) 1 1 τ) (fun v _ => v = 0) := by
  rw [g_Mo_readAbbreviations_16, if_neg i10, if_neg i10]
  refine R1_b (R1ml h) (fun v s _ k => ?_)
  obtain ⟨_, rfl⟩ := k
  unfold g_Mo_readAbbreviations_50 g_Mo_readAbbreviations_51 g_Mo_readAbbreviations_88 g_Mo_readAbbreviations_89 g_Mo_readAbbreviations_186
  rw [if_neg h, if_neg h, if_pos rfl, ra_0]
  exact R1_p rfl
