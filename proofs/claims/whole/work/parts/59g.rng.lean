/-! ranges -/
def RN (σ τ : am_S) (r : Nat) : Prop := r ≤ 300 ∧ σ.1.1 32 4 = nI r ∧ τ.1.1 0 33 = nI r ∧ ∀ i, i < r → σ.2.2 33 i = τ.2.2 23 i ∧ σ.2.2 34 i = τ.2.2 24 i
theorem RN_fr {W W' : List (Nat × Nat)} {A A' : List Nat} {σ τ s t : am_S} {r : Nat} (h : RN σ τ r) (f : FR W A σ s) (g : FR W' A' τ t) (n : (W.contains (32, 4) || A.contains 33 || A.contains 34 || W'.contains (0, 33) || A'.contains 23 || A'.contains 24) = false) : RN s t r := by
  simp only [Bool.or_eq_false_iff] at n
  obtain ⟨⟨⟨⟨⟨n1, n2⟩, n3⟩, n4⟩, n5⟩, n6⟩ := n
  unfold RN
  rw [fr_i f n1, fr_i g n4, fr_c f n2, fr_c f n3, fr_c g n5, fr_c g n6]
  exact h
theorem ar_2 {σ τ : am_S} {r : Nat} {x y : Int64} (h : RN σ τ r) (h8 : τ.1.1 0 8 = 0) : R2 (g_Va_addRange x y σ) (g_Mo_range x y τ) (fun _ s b t => FR [(32, 4), (37, 6)] [33, 34] σ s ∧ FR [(0, 33)] [23, 24] τ t ∧ ((b = 0 ∧ ¬ s.1.1 37 6 = 0) ∨ (b = 1 ∧ RN s t (r + 1) ∧ s.1.1 37 6 = σ.1.1 37 6))) := by
  obtain ⟨h1, h2, h3, h4⟩ := h
  unfold g_Va_addRange g_Va_addRange_17 g_Ra_add g_Mo_range g_Mo_range_17 g_Va_wrong
  rw [h2, h3, if_pos h8]
  by_cases c : r = 300
  · rw [if_pos (show nI r = 300 from c ▸ rfl), if_pos (show nI r = 300 from c ▸ rfl), bd_t, if_pos rfl, bd_t]
    exact R2_p ⟨fr_fi fr_rf (by simp), fr_rf, Or.inl ⟨rfl, by rw [fi_at]; decide⟩⟩
  · have ne : ¬ nI r = 300 := fun z => c ((nI_eq (b := 300) (by omega) (by omega)).mp z)
    rw [if_neg ne, if_neg ne, inb_nI (by omega) (by decide), gd_t, gd_t, gd_t, gd_t, nI_clamp (by omega), bd_t, if_neg i10, show nI r + 1 = nI (r + 1) from nI_add r 1]
    refine R2_p ⟨fr_fi (fr_al (fr_al fr_rf (by simp)) (by simp)) (by simp), fr_fi (fr_al (fr_al fr_rf (by simp)) (by simp)) (by simp), Or.inr ⟨rfl, ⟨by omega, fi_at, fi_at, fun i hi => ?_⟩, fi_no (Or.inl (by decide))⟩⟩
    show (am_al (am_al σ 33 r x) 34 r y).2.2 33 i = (am_al (am_al τ 23 r x) 24 r y).2.2 23 i ∧ (am_al (am_al σ 33 r x) 34 r y).2.2 34 i = (am_al (am_al τ 23 r x) 24 r y).2.2 24 i
    by_cases ci : i = r
    · subst ci
      rw [al_no (Or.inl (by decide)), al_at, al_no (Or.inl (by decide)), al_at, al_at, al_at]
      exact ⟨rfl, rfl⟩
    · rw [al_no (Or.inr ci), al_no (Or.inr ci), al_no (Or.inr ci), al_no (Or.inr ci), al_no (Or.inr ci), al_no (Or.inr ci), al_no (Or.inr ci), al_no (Or.inr ci)]
      exact h4 i (by omega)
/-! the class alone, once something was wrong -/
def CI (σ τ0 : am_S) (N U : Nat) (fs A Z : Nat → Nat) : Prop := EV σ τ0 N U fs A Z ∧ ((∃ p q, CU σ 38 p q false) ∨ ¬ σ.1.1 38 3 = 0) ∧ ∃ r, r ≤ 300 ∧ σ.1.1 32 4 = nI r
def ST2 (σ s : am_S) : Prop := (¬ σ.1.1 38 3 = 0 → ¬ s.1.1 38 3 = 0) ∧ (¬ σ.1.1 37 6 = 0 → ¬ s.1.1 37 6 = 0)
theorem ST2_tr {σ s t : am_S} (h : ST2 σ s) (h' : ST2 s t) : ST2 σ t := ⟨fun z => h'.1 (h.1 z), fun z => h'.2 (h.2 z)⟩
theorem op_u {σ τ0 : am_S} {N U m : Nat} {fs A Z : Nat → Nat} (h : CI σ τ0 N U fs A Z) (hm : m ≤ 8) : R1 (g_Cu_number 38 (nI m) σ) (fun _ s => CI s τ0 N U fs A Z ∧ ST2 σ s) := by
  obtain ⟨hE, hc, r, hr, h4⟩ := h
  have fin : ∀ s, FR [(38, 1), (38, 3)] [] σ s → EV s τ0 N U fs A Z ∧ (∃ r, r ≤ 300 ∧ s.1.1 32 4 = nI r) ∧ (¬ σ.1.1 37 6 = 0 → ¬ s.1.1 37 6 = 0) := fun s f => ⟨EV_fr hE f (fr_rf (W := []) (A := [])) (by decide) (by decide), ⟨r, hr, (fr_i f (by decide)).trans h4⟩, fun z => by rw [fr_i f (by decide)]; exact z⟩
  rcases hc with ⟨p, q, hC⟩ | hb
  · by_cases c : p + m ≤ q
    · have e := gn_ok hC hm c
      have := fin _ (f_Cu_number e)
      exact ⟨_, _, e, ⟨this.1, Or.inl ⟨_, _, CU_1' hC c⟩, this.2.1⟩, fun z => absurd hC.2.2.1 z, this.2.2⟩
    · have e := gn_bad hC hm (Or.inr (by omega))
      have := fin _ (f_Cu_number e)
      exact ⟨_, _, e, ⟨this.1, Or.inr (by rw [fi_at]; decide), this.2.1⟩, fun _ => by rw [fi_at]; decide, this.2.2⟩
  · have e := bn (m := nI m) hb
    have := fin _ (f_Cu_number e)
    exact ⟨_, _, e, ⟨this.1, Or.inr (by rw [fi_at]; decide), this.2.1⟩, fun _ => by rw [fi_at]; decide, this.2.2⟩
theorem op_l {σ τ0 : am_S} {N U : Nat} {fs A Z : Nat → Nat} (h : CI σ τ0 N U fs A Z) : R1 (g_Cu_uleb 38 σ) (fun _ s => CI s τ0 N U fs A Z ∧ ST2 σ s) := by
  obtain ⟨hE, hc, r, hr, h4⟩ := h
  have fin : ∀ s, FR [(38, 1), (38, 3)] [] σ s → EV s τ0 N U fs A Z ∧ (∃ r, r ≤ 300 ∧ s.1.1 32 4 = nI r) ∧ (¬ σ.1.1 37 6 = 0 → ¬ s.1.1 37 6 = 0) := fun s f => ⟨EV_fr hE f (fr_rf (W := []) (A := [])) (by decide) (by decide), ⟨r, hr, (fr_i f (by decide)).trans h4⟩, fun z => by rw [fr_i f (by decide)]; exact z⟩
  rcases hc with ⟨p, q, hC⟩ | hb
  · cases hr' : rdL (σ.2.1 1) q false 10 0 0 p with
    | some w =>
      obtain ⟨w, p'⟩ := w
      have hle := rdL_le hr'
      have e : g_Cu_uleb 38 σ = some (w, am_fi σ 38 1 (nI p')) := by
        unfold g_Cu_uleb
        rw [show g_Cu_leb 38 0 σ = _ from gl_ok (sg := false) hC hr', bd_t]
      have := fin _ (f_Cu_uleb e)
      exact ⟨_, _, e, ⟨this.1, Or.inl ⟨_, _, CU_1' hC hle.2⟩, this.2.1⟩, fun z => absurd hC.2.2.1 z, this.2.2⟩
    | none =>
      obtain ⟨p1, _, _, e1⟩ := gl_bad (sg := false) hC hr'
      have e : g_Cu_uleb 38 σ = some (0, am_fi (am_fi σ 38 1 (nI p1)) 38 3 1) := by
        unfold g_Cu_uleb
        rw [show g_Cu_leb 38 0 σ = _ from e1, bd_t]
      have := fin _ (f_Cu_uleb e)
      exact ⟨_, _, e, ⟨this.1, Or.inr (by rw [fi_at]; decide), this.2.1⟩, fun _ => by rw [fi_at]; decide, this.2.2⟩
  · have e := bul hb
    have := fin _ (f_Cu_uleb e)
    exact ⟨_, _, e, ⟨this.1, Or.inr (by rw [fi_at]; decide), this.2.1⟩, fun _ => by rw [fi_at]; decide, this.2.2⟩
theorem CI_vw {σ s τ0 : am_S} {N U : Nat} {fs A Z : Nat → Nat} (h : CI σ τ0 N U fs A Z) (f : FR VW [] σ s) : CI s τ0 N U fs A Z ∧ (¬ σ.1.1 38 3 = 0 → ¬ s.1.1 38 3 = 0) := by
  obtain ⟨hE, hc, r, hr, h4⟩ := h
  refine ⟨⟨EV_fr hE f (fr_rf (W := []) (A := [])) (by decide) (by decide), ?_, r, hr, (fr_i f (by decide)).trans h4⟩, fun z => by rw [fr_i f (by decide)]; exact z⟩
  rcases hc with ⟨p, q, hC⟩ | hb
  · exact Or.inl ⟨p, q, CU_fr hC f (by decide) (by decide) (by decide)⟩
  · exact Or.inr (by rw [fr_i f (by decide)]; exact hb)
theorem op_a {σ τ0 : am_S} {N U u : Nat} {fs A Z : Nat → Nat} {v : Int64} (h : CI σ τ0 N U fs A Z) (hu : u < U) : R1 (g_Va_addressAt (nI u) v σ) (fun _ s => CI s τ0 N U fs A Z ∧ ST2 σ s) := by
  refine R1_m (ata_c (v := v) h.1 hu) (fun w s _ k => ?_)
  have hc := CI_vw h k.1
  refine ⟨hc.1, hc.2, fun z => ?_⟩
  have k2 := k.2
  cases hi : (idx (A 5) (Z 5) 8 (bas τ0 (fs u) 9) v).map (fun p => lN (num (σ.2.1 1) p 8)) with
  | some x => rw [hi] at k2; exact fun q => z (k2.2.mp q)
  | none => rw [hi] at k2; exact k2
theorem op_r {σ τ0 : am_S} {N U : Nat} {fs A Z : Nat → Nat} {x y : Int64} (h : CI σ τ0 N U fs A Z) : R1 (g_Va_addRange x y σ) (fun _ s => CI s τ0 N U fs A Z ∧ ST2 σ s) := by
  obtain ⟨hE, hc, r, hr, h4⟩ := h
  unfold g_Va_addRange g_Va_addRange_17 g_Ra_add g_Va_wrong
  rw [h4]
  have fin : ∀ s, FR [(32, 4), (37, 6)] [33, 34] σ s → EV s τ0 N U fs A Z ∧ ((∃ p q, CU s 38 p q false) ∨ ¬ s.1.1 38 3 = 0) ∧ (¬ σ.1.1 38 3 = 0 → ¬ s.1.1 38 3 = 0) := fun s f => by
    refine ⟨EV_fr hE f (fr_rf (W := []) (A := [])) (by decide) (by decide), ?_, fun z => by rw [fr_i f (by decide)]; exact z⟩
    rcases hc with ⟨p, q, hC⟩ | hb
    · exact Or.inl ⟨p, q, CU_fr hC f (by decide) (by decide) (by decide)⟩
    · exact Or.inr (by rw [fr_i f (by decide)]; exact hb)
  by_cases c : r = 300
  · rw [if_pos (show nI r = 300 from c ▸ rfl), bd_t, if_pos rfl, bd_t]
    have := fin (am_fi σ 37 6 1) (fr_fi fr_rf (by simp))
    exact R1_p ⟨⟨this.1, this.2.1, r, hr, (fi_no (Or.inl (by decide))).trans h4⟩, this.2.2, fun _ => by rw [fi_at]; decide⟩
  · rw [if_neg (show ¬ nI r = 300 from fun z => c ((nI_eq (b := 300) (by omega) (by omega)).mp z)), inb_nI (by omega) (by decide), gd_t, gd_t, nI_clamp (by omega), bd_t, if_neg i10, show nI r + 1 = nI (r + 1) from nI_add r 1]
    have := fin (am_fi (am_al (am_al σ 33 r x) 34 r y) 32 4 (nI (r + 1))) (fr_fi (fr_al (fr_al fr_rf (by simp)) (by simp)) (by simp))
    exact R1_p ⟨⟨this.1, this.2.1, r + 1, by omega, fi_at⟩, this.2.2, fun z => by rw [fi_no (Or.inl (by decide))]; exact z⟩
/-- something was wrong -/
def FC (σ τ0 : am_S) (N U : Nat) (fs A Z : Nat → Nat) : Prop := CI σ τ0 N U fs A Z ∧ (¬ σ.1.1 38 3 = 0 ∨ ¬ σ.1.1 37 6 = 0)
theorem FC_o {α : Type} {x : Option (α × am_S)} {σ τ0 : am_S} {N U : Nat} {fs A Z : Nat → Nat} (h : FC σ τ0 N U fs A Z) (k : R1 x (fun _ s => CI s τ0 N U fs A Z ∧ ST2 σ s)) : R1 x (fun _ s => FC s τ0 N U fs A Z) := R1_m k (fun _ s _ q => ⟨q.1, h.2.imp q.2.1 q.2.2⟩)
theorem fc_e {σ τ0 : am_S} {N U u : Nat} {fs A Z : Nat → Nat} {k : Int32} {x : Int64} (h : FC σ τ0 N U fs A Z) (hu : u < U) : R1 (g_Va_rangeEnd (nI u) k x σ) (fun _ s => FC s τ0 N U fs A Z) := by
  unfold g_Va_rangeEnd g_Va_rangeEnd_45
  by_cases c : k = 2
  · rw [if_pos c]
    refine R1_b (FC_o h (op_l h.1)) (fun _ s _ h1 => ?_)
    exact R1_b (FC_o h1 (op_a h1.1 hu)) (fun _ s _ h2 => R1_p h2)
  · rw [if_neg c]
    by_cases c6 : k = 6
    · rw [if_pos c6]
      exact R1_b (FC_o h (op_u (m := 8) h.1 (by decide))) (fun _ s _ h2 => R1_p h2)
    · rw [if_neg c6]
      exact R1_b (FC_o h (op_l h.1)) (fun _ s _ h2 => R1_p h2)
theorem fc_r {σ τ0 : am_S} {N U : Nat} {fs A Z : Nat → Nat} {x y : Int64} (h : FC σ τ0 N U fs A Z) : R1 (am_bd (g_Va_addRange x y σ) fun _ σ9 => g_Va_readPiece_155 σ9) (fun _ s => FC s τ0 N U fs A Z) := R1_b (FC_o h (op_r h.1)) (fun _ _ _ h2 => R1_p h2)
theorem fc_p {σ τ0 : am_S} {N U u : Nat} {fs A Z : Nat → Nat} {k : Int32} {x : Int64} (h : FC σ τ0 N U fs A Z) (hu : u < U) : R1 (g_Va_readPiece_134 (nI u) k x σ) (fun _ s => FC s τ0 N U fs A Z) := by
  unfold g_Va_readPiece_134
  exact R1_b (fc_e h hu) (fun _ s _ h1 => fc_r h1)
/-- the end of a piece -/
def TL (go : Int32 → Int32 → am_S → Option (Unit × am_S)) (x2 x3 : Int32) (s : am_S) : Option (Unit × am_S) := if (s.1.1 37 6) = 0 then if (s.1.1 38 3) = 0 then g_Va_readList_122 go x2 x3 (0) s else g_Va_readList_117 go x2 x3 s else g_Va_readList_117 go x2 x3 s
theorem tl_no {n : Nat} {x2 x3 : Int32} {s : am_S} (h : ¬ s.1.1 38 3 = 0 ∨ ¬ s.1.1 37 6 = 0) : R1 (TL (g_Va_readList_51 (n + 1)) x2 x3 s) (fun _ s' => ¬ s'.1.1 37 6 = 0) := by
  have e : TL (g_Va_readList_51 (n + 1)) x2 x3 s = g_Va_readList_117 (g_Va_readList_51 (n + 1)) x2 x3 s := by
    unfold TL
    rcases h with h | h
    · rw [if_neg h]
      simp only [ite_self]
    · rw [if_neg h]
  rw [e]
  unfold g_Va_readList_117 g_Va_readList_122 g_Va_readList_51 g_Va_readList_131
  rw [show z01 1 = true from by decide, gd_t, if_neg (show ¬ (am_fi s 37 6 1).1.1 37 6 = 0 by rw [fi_at]; decide)]
  simp only [ite_self]
  exact R1_p (by rw [fi_at]; decide)
theorem rl0 {n : Nat} {x1 x6 : Int32} {x3 : Int64} {τ : am_S} : g_Mo_readList_45 (n + 1) x1 x3 0 x6 τ = some (0, τ) := by
  unfold g_Mo_readList_45 g_Mo_readList_261
  rw [if_pos rfl]
  rfl
theorem r239_0 {n : Nat} {x1 x6 : Int32} {x3 : Int64} {τ : am_S} : g_Mo_readList_239 (g_Mo_readList_45 (n + 1)) x1 x3 0 x6 τ = some (0, τ) := by
  unfold g_Mo_readList_239 g_Mo_readList_255 g_Mo_readList_256
  rw [if_pos rfl, rl0]
theorem r239_b {n : Nat} {x1 x5 x6 : Int32} {x3 : Int64} {τ : am_S} (h : ¬ τ.1.1 0 8 = 0) : g_Mo_readList_239 (g_Mo_readList_45 (n + 1)) x1 x3 x5 x6 τ = some (0, τ) := by
  unfold g_Mo_readList_239 g_Mo_readList_255 g_Mo_readList_256
  rw [if_neg h, rl0]
  simp only [ite_self]
theorem rg_b {x y : Int64} {τ : am_S} (h : ¬ τ.1.1 0 8 = 0) : g_Mo_range x y τ = some (0, τ) := by
  unfold g_Mo_range g_Mo_range_17
  rw [if_neg h]
  simp only [ite_self]
theorem ata_b {σ τ : am_S} {N U e u : Nat} {fs A Z : Nat → Nat} {v : Int64} (h : EV σ τ N U fs A Z) (he : e < N) (hu : u < U) (h19 : τ.2.1 19 e = nI u) (hb : ¬ τ.1.1 0 8 = 0) : R1 (g_Mo_addressAt (nI e) v τ) (fun y t => ¬ t.1.1 0 8 = 0 ∧ (y = 0 ∨ y = 1)) := by
  refine R1_m (ata_m (v := v) h he hu h19) (fun y t _ k => ⟨by rw [fr_i k.1 (by decide)]; exact hb, ?_⟩)
  have k2 := k.2
  cases hi : (idx (A 5) (Z 5) 8 (bas τ (fs u) 9) v).map (fun p => lN (num (τ.2.1 2) p 8)) with
  | some x => rw [hi] at k2; exact Or.inr k2.1
  | none => rw [hi] at k2; exact Or.inl k2
