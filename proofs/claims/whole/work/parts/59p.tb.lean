/-! a whole table of names -/
def KFZ (σ s : am_S) (u : Nat) : Prop := FR CW [47, 48, 50] σ s ∧ NR [(47, u), (48, 30 * u), (50, 0)] σ s
def KG (τ t : am_S) (u : Nat) : Prop := FR [(0, 6), (0, 8)] [25, 26, 29] τ t ∧ NR [(25, u), (26, 30 * u), (29, 0)] τ t
theorem NR_50 {σ s : am_S} {u : Nat} {W : List (Nat × Nat)} (f : FR W [50] σ s) : NR [(47, u), (48, 30 * u), (50, 0)] σ s := fun k j h => by
  have : k ∉ [50] := fun z => by
    simp at z
    have := h 0 (by rw [z]; simp)
    omega
  have := f.2 k this
  rw [this.1, this.2]
  exact ⟨rfl, rfl⟩
theorem NR_29 {τ t : am_S} {u : Nat} {W : List (Nat × Nat)} (f : FR W [29] τ t) : NR [(25, u), (26, 30 * u), (29, 0)] τ t := fun k j h => by
  have : k ∉ [29] := fun z => by
    simp at z
    have := h 0 (by rw [z]; simp)
    omega
  have := f.2 k this
  rw [this.1, this.2]
  exact ⟨rfl, rfl⟩
theorem t30_2 {x1 x2 x3 : Int32} {τ : am_S} (h : MU τ) : R1 (g_Mo_readTable_30 x1 x2 x3 (-2) τ) (fun y t => y = 0 ∧ FR [(0, 6), (0, 8)] [] τ t) := by
  unfold g_Mo_readTable_30 g_Mo_readTable_69
  refine R1_b (mu_l (x := 0) rfl h) (fun v t e _ => ?_)
  rw [if_pos rfl]
  exact R1_p ⟨rfl, f_Mo_leb e⟩
theorem fm_l {σ τ : am_S} {A Z : Nat → Nat} {p q u : Nat} {bI : Int32} {F : Int32 → am_S → Option (Int32 × am_S)} {Q : Int32 → am_S → Int32 → am_S → Prop} (hG : RG 51 σ τ p q) (hc : SXc σ A Z) (hm : SXm τ A Z)
    (hno : ∀ s M, KFZ σ s u → R1 M (fun y t => y = 0 ∧ KG τ t u) → R2 (F 0 s) M Q) (hyes : ∀ s t n nm p', p ≤ p' → TS s t A Z p' q n nm → ¬ nm = -2 → KFZ σ s u → KG τ t u → s.2.1 47 = σ.2.1 47 → s.2.1 48 = σ.2.1 48 → R2 (F 1 s) (g_Mo_readTable_30 (nI u) bI (nI n) nm t) Q) : R2 (am_bd (g_Li_readForms σ) F) (g_Mo_readTable (nI u) bI τ) Q := by
  unfold g_Li_readForms g_Li_readForms_37 g_Mo_readTable g_Mo_readTable_20
  obtain ⟨v1, s1, w1, t1, e1, e1', f1, g1, k1⟩ := xu (m := 1) hG (by omega) (by omega)
  rw [show g_Cu_number 51 1 σ = _ from e1, show g_Mo_u 1 τ = _ from e1', bd_t, bd_t]
  have fC : FR CW [50] σ (am_fi (am_fi s1 49 6 v1.toInt32) 49 7 (-1)) := fr_fi (fr_fi (fr_up f1 (by decide) (fun _ h => by cases h)) (by decide)) (by decide)
  have gM : FR [(0, 6), (0, 8)] [29] τ t1 := fr_up g1 (fun _ h => h) (fun _ h => by cases h)
  have toF : ∀ s, FR CW [50] σ s → KFZ σ s u := fun s f => ⟨fr_up f (fun _ h => h) (by decide), NR_50 f⟩
  have toG : ∀ t, FR [(0, 6), (0, 8)] [29] τ t → KG τ t u := fun t f => ⟨fr_up f (fun _ h => h) (by decide), NR_29 f⟩
  have noE : ∀ s t x3, FR CW [50] σ s → FR [(0, 6), (0, 8)] [29] τ t → MU t → R2 (am_bd (some ((0 : Int32), s)) F) (g_Mo_readTable_30 (nI u) bI x3 (-2) t) Q := fun s t x3 f g h => by
    rw [bd_t]
    exact hno s _ (toF s f) (R1_m (t30_2 h) (fun y t' _ k => ⟨k.1, toG t' (fr_tr g (fr_up k.2 (fun _ h => h) (fun _ h => by cases h)))⟩))
  rcases k1 with ⟨hq1, G1, rfl, rfl⟩ | ⟨b1, rfl, rfl⟩
  · have hcc := num_lt (σ.2.1 1) 1 p
    generalize num (σ.2.1 1) p 1 = c at *
    rw [if_pos (RG_3 G1), if_pos (RG_8 G1), lN_i]
    rw [lN_i] at fC
    by_cases c6 : 6 < c
    · rw [if_pos (show 6 < nI c from nI_lt (a := 6) c6 (by omega)), if_pos (show 6 < nI c from nI_lt (a := 6) c6 (by omega))]
      exact noE _ t1 _ fC gM (Or.inl ⟨_, _, G1.2.1⟩)
    · rw [if_neg (show ¬ 6 < nI c from nI_nlt (a := 6) (by omega) (by omega)), if_neg (show ¬ 6 < nI c from nI_nlt (a := 6) (by omega) (by omega))]
      unfold g_Mo_readWhats
      have fC1 : FR [(49, 6), (49, 7)] [] s1 (am_fi (am_fi s1 49 6 (nI c)) 49 7 (-1)) := fr_fi (fr_fi fr_rf (by simp)) (by simp)
      refine R2_b (wf_l (n := c) (q := q) (p0 := p + 1) (by omega) (σ0 := am_fi (am_fi s1 49 6 (nI c)) 49 7 (-1)) (τ0 := t1) c 0 (by omega) _ t1 (p + 1) (-1) (Nat.le_refl _) (RG_fr G1 fC1 (fr_rf (W := []) (A := [])) (by decide)) fr_rf fr_rf ((fi_no (Or.inl (by decide))).trans fi_at) fi_at ⟨fun m hm => absurd hm (by omega), Or.inl rfl⟩ 4000 4000 (by omega) (by omega)) (fun x s y t _ _ k => ?_)
      obtain ⟨f2, g2, k⟩ := k
      have F2 : FR CW [50] σ s := fr_tr fC (fr_up f2 (by decide) (fun _ h => h))
      have K2 : FR [(0, 6), (0, 8)] [29] τ t := fr_tr gM g2
      rcases k with ⟨rfl, rfl, hMU⟩ | ⟨rfl, k1, k2, k3, k4, p', hp', G'⟩
      · have := noE s t (nI c) F2 K2 hMU
        rw [bd_t] at this
        exact this
      · refine hyes s t c y p' (by omega) ⟨G', fun k hk => ?_, fun k hk => ?_, k3, k1, k4, by omega⟩ k2 (toF s F2) (toG t K2) (fr_b F2 (by decide)) (fr_b F2 (by decide))
        · rw [fr_b F2 (by decide), fr_b F2 (by decide)]; exact hc k hk
        · rw [fr_b K2 (by decide), fr_b K2 (by decide)]; exact hm k hk
  · rw [if_neg b1.1, if_neg b1.2]
    exact noE _ t1 _ fC gM (Or.inr b1.2)
theorem tb_l {σ τ : am_S} {A Z : Nat → Nat} {p q u b : Nat} (hb : b = 0 ∨ b = 1) (hG : RG 51 σ τ p q) (hc : SXc σ A Z) (hm : SXm τ A Z) (hu : u < 4) (h47 : b = 1 → σ.2.1 47 u = nI 0) : R2 (g_Li_readNames (nI u) (nI b) σ) (g_Mo_readTable (nI u) (nI b) τ) (TP σ τ u p q b) := by
  unfold g_Li_readNames
  refine fm_l (A := A) (Z := Z) (u := u) hG hc hm (fun s M hs hM => ?_) (fun s t n nm p' hp' hT hnm hs ht e47 e48 => ?_)
  · rw [if_pos rfl]
    exact R2_of (P := fun x s' => x = 0 ∧ s' = s) (R1_p ⟨rfl, rfl⟩) hM (fun x s' y t _ _ k1 k2 => ⟨k1.2 ▸ hs.1, k2.2.1, k1.2 ▸ hs.2, k2.2.2, Or.inl ⟨k1.1, k2.1⟩⟩)
  · rw [if_neg i10]
    unfold g_Mo_readTable_30 g_Mo_readTable_69 g_Mo_readTable_71 g_Mo_readTable_84
    obtain ⟨v1, s1, w1, t1, e1, e1', f1, g1, k1⟩ := xul hT.1
    rw [e1, e1', bd_t, bd_t, if_neg hnm]
    have hs1 : KFZ σ s1 u := ⟨fr_tr hs.1 (fr_up f1 (by decide) (fun _ h => by cases h)), NR_fr hs.2 f1⟩
    have ht1 : KG τ t1 u := ⟨fr_tr ht.1 (fr_up g1 (fun _ h => h) (fun _ h => by cases h)), NR_fr ht.2 g1⟩
    have fail : R2 (some ((0 : Int32), s1)) (some ((0 : Int32), t1)) (TP σ τ u p q b) := R2_p ⟨hs1.1, ht1.1, hs1.2, ht1.2, Or.inl ⟨rfl, rfl⟩⟩
    rcases k1 with ⟨p1, hp1, hp1q, G1, rfl⟩ | ⟨b1, _⟩
    · have hT1 : TS s1 t1 A Z p1 q n nm := TS_up hT f1 g1 G1 (by decide)
      have hn6 := hT1.2.2.2.2.2.2
      have hq := RG_q G1
      rw [if_pos (RG_3 G1), if_pos (RG_8 G1), hT1.2.2.2.1]
      unfold g_Li_readNames_42 g_Li_readNames_61 g_Li_readNames_66
      rcases hb with rfl | rfl
      · rw [if_pos (show nI 0 = 0 from rfl), if_pos (show nI 0 = 0 from rfl), if_pos (show nI 0 = 0 from rfl), if_pos (show nI 0 = 0 from rfl)]
        by_cases c0 : n = 0
        · subst c0
          rw [if_pos (show nI 0 = 0 from rfl)]
          have e164 : g_Mo_readTable_87 4000 (nI u) (nI 0) (nI 0) nm v1 0 t1 = some (1, t1) := by
            unfold g_Mo_readTable_87 g_Mo_readTable_102 g_Mo_readTable_106 g_Mo_readTable_164
            rw [if_neg (show ¬ 0 < nI 0 by decide), if_pos (show nI 0 = 0 from rfl)]
            simp only [ite_self]
          rw [e164]
          exact R2_p ⟨hs1.1, ht1.1, hs1.2, ht1.2, Or.inr ⟨rfl, rfl, ⟨p1, by omega, G1⟩, fun z => by omega, fun _ => (fr_b f1 (by decide)).trans e47⟩⟩
        · rw [if_neg (nI_ne0 (n := n) (by omega) (by omega))]
          have big : (v1 < 0 ∨ lN 3000 < v1) → R2 (some ((0 : Int32), s1)) (g_Mo_readTable_87 4000 (nI u) (nI 0) (nI n) nm v1 0 t1) (TP σ τ u p q 0) := fun hx => by
            have hz := fo_0 (u := u) (σ0 := σ) (τ0 := τ) (by omega) hx 3000 p1 (by omega) s1 t1 0 (by omega) hT1 hs1.1 ht1.1 ht1.2 4000 (by omega)
            exact R2_of (P := fun x s' => x = 0 ∧ s' = s1) (R1_p ⟨rfl, rfl⟩) hz (fun x s' y t _ _ k1 k2 => ⟨k1.2 ▸ hs1.1, k2.2.1, k1.2 ▸ hs1.2, k2.2.2, Or.inl ⟨k1.1, k2.1⟩⟩)
          by_cases c1 : v1 < 0
          · rw [if_pos ((cmp_lt _ _).mpr c1)]
            exact big (Or.inl c1)
          · rw [if_neg (fun z => c1 ((cmp_lt _ _).mp z))]
            by_cases c2 : lN 3000 < v1
            · rw [if_pos (show 0 < lg_cmp v1 (Int32.toInt64 3000) from (cmp_gt _ _).mpr c2)]
              exact big (Or.inr c2)
            · rw [if_neg (show ¬ 0 < lg_cmp v1 (Int32.toInt64 3000) from fun z => c2 ((cmp_gt _ _).mp z))]
              obtain ⟨T, hT', rfl⟩ := in_pos (d := 3000) (by omega) (fun z => z.elim c1 c2)
              refine R2_m (fo_l' (u := u) (σ0 := σ) (τ0 := τ) (p0 := p) (by omega) hT' T 0 (by omega) s1 t1 p1 (by omega) hT1 hs1.1 ht1.1 hs1.2 ht1.2 ((fr_b f1 (by decide)).trans e47) 4000 4000 (by omega) (by omega)) (fun _ _ _ _ _ _ z => z)
      · simp only [if_neg (show ¬ nI 1 = 0 by decide), ite_self]
        obtain ⟨yi, ti, ei, rfl, ki⟩ := mi_1 (σ := t1) (x := v1) (a := 0) (b := 30)
        rw [ei, bd_t]
        rcases ki with ⟨rfl, ki⟩ | ⟨rfl, ki⟩
        · obtain ⟨T, hT', rfl⟩ := in_pos (d := 30) (by omega) (fun z => z.elim ki.1 ki.2)
          rw [if_neg i10, if_neg (fun z => ki.1 ((cmp_lt _ _).mp z)), if_neg (show ¬ 0 < lg_cmp (lN T) (Int32.toInt64 30) from fun z => ki.2 ((cmp_gt _ _).mp z)), inb_nI hu (by decide), gd_t, nI_clamp (by omega), lN_i]
          have gA : FR [] [25] ti (am_ai ti 25 u (nI T)) := fr_ai fr_rf (by simp)
          refine R2_m (fi_l' (u := u) (σ0 := σ) (τ0 := τ) (p0 := p) hu hT' T 0 (by omega) s1 (am_ai ti 25 u (nI T)) p1 (by omega) (TS_up hT1 (fr_rf (W := []) (A := [])) gA (RG_fr G1 (fr_rf (W := []) (A := [])) gA (by decide)) (by decide)) hs1.1 (fr_tr ht1.1 (fr_up gA (fun _ h => by cases h) (by decide))) hs1.2 (NR_ai ht1.2 (L := u) (by simp) (Nat.le_refl _)) ?_ ai_at (fun k hk => absurd hk (by omega)) 4000 4000 (by omega) (by omega)) (fun _ _ _ _ _ _ z => z)
          rw [fr_b f1 (by decide), e47]
          exact h47 rfl
        · rw [if_pos rfl]
          have : R2 (if lg_cmp v1 0 < 0 then some ((0 : Int32), s1) else if 0 < lg_cmp v1 (Int32.toInt64 30) then some (0, s1) else g_Li_readNames_71 4000 (nI u) (nI 1) v1 0 s1) (some ((0 : Int32), ti)) (TP σ τ u p q 1) := by
            rcases ki with ki | ki
            · rw [if_pos ((cmp_lt _ _).mpr ki)]
              exact fail
            · rw [if_pos (show 0 < lg_cmp v1 (Int32.toInt64 30) from (cmp_gt _ _).mpr ki)]
              simp only [ite_self]
              exact fail
          exact this
    · rw [if_neg b1.1, if_neg b1.2]
      exact fail
