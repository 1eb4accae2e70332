/-! a list of ranges, both sides -/
def RL (σ τ : am_S) (N U : Nat) (fs A Z : Nat → Nat) (e u p q r : Nat) (x : Int64) : Prop := EV σ τ N U fs A Z ∧ RG 38 σ τ p q ∧ RN σ τ r ∧ σ.1.1 37 6 = 0 ∧ σ.1.2 37 5 = x ∧ τ.2.1 19 e = nI u
def LQ (r0 : Nat) (_ : Unit) (s : am_S) (y : Int32) (t : am_S) : Prop := (y = 1 ∧ s.1.1 37 6 = 0 ∧ ∃ r, r0 ≤ r ∧ RN s t r) ∨ (y = 0 ∧ ¬ s.1.1 37 6 = 0)
theorem CI_RL {σ τ : am_S} {N U e u p q r : Nat} {fs A Z : Nat → Nat} {x : Int64} (h : RL σ τ N U fs A Z e u p q r x) : CI σ τ N U fs A Z := ⟨h.1, Or.inl ⟨p, q, h.2.1.1⟩, r, h.2.2.1.1, h.2.2.1.2.1⟩
theorem RL_cu {σ τ s t : am_S} {N U e u p p' q r : Nat} {fs A Z : Nat → Nat} {x : Int64} (h : RL σ τ N U fs A Z e u p q r x) (f : FR [(38, 1), (38, 3)] [] σ s) (g : FR [(0, 6), (0, 8)] [] τ t) (G : RG 38 s t p' q) : RL s t N U fs A Z e u p' q r x := ⟨EV_fr h.1 f g (by decide) (by decide), G, RN_fr h.2.2.1 f g (by decide), (fr_i f (by decide)).trans h.2.2.2.1, (fr_j f (by decide)).trans h.2.2.2.2.1, by rw [fr_b g (by decide)]; exact h.2.2.2.2.2⟩
theorem FC_bd {σ τ s t : am_S} {N U e u p q r : Nat} {fs A Z : Nat → Nat} {x : Int64} (h : RL σ τ N U fs A Z e u p q r x) (f : FR [(38, 1), (38, 3)] [] σ s) (b : BD 38 s t) : FC s τ N U fs A Z := ⟨⟨EV_fr h.1 f (fr_rf (W := []) (A := [])) (by decide) (by decide), Or.inr b.1, r, h.2.2.1.1, (fr_i f (by decide)).trans h.2.2.1.2.1⟩, Or.inl b.1⟩
/-- addressAt, both sides -/
theorem ata_2 {σ τ : am_S} {N U e u p q r : Nat} {fs A Z : Nat → Nat} {x v : Int64} (h : RL σ τ N U fs A Z e u p q r x) (he : e < N) (hu : u < U) : R2 (g_Va_addressAt (nI u) v σ) (g_Mo_addressAt (nI e) v τ) (fun w s y t => (y = 1 ∧ t.1.2 0 37 = w ∧ RL s t N U fs A Z e u p q r x) ∨ (y = 0 ∧ FC s τ N U fs A Z)) := by
  refine R2_of (ata_c (v := v) h.1 hu) (ata_m (v := v) h.1 he hu h.2.2.2.2.2) (fun w s y t _ _ k1 k2 => ?_)
  have hC := CI_vw (CI_RL h) k1.1
  rw [EV_b h.1] at k1
  have k1' := k1.2
  have k2' := k2.2
  cases hi : (idx (A 5) (Z 5) 8 (bas τ (fs u) 9) v).map (fun p => lN (num (τ.2.1 2) p 8)) with
  | some z =>
    rw [hi] at k1' k2'
    refine Or.inl ⟨k2'.1, k2'.2.trans k1'.1.symm, EV_fr h.1 k1.1 k2.1 (by decide) (by decide), RG_fr h.2.1 k1.1 k2.1 (by decide), RN_fr h.2.2.1 k1.1 k2.1 (by decide), k1'.2.mpr h.2.2.2.1, (fr_j k1.1 (by decide)).trans h.2.2.2.2.1, by rw [fr_b k2.1 (by decide)]; exact h.2.2.2.2.2⟩
  | none =>
    rw [hi] at k1' k2'
    exact Or.inr ⟨k2', hC.1, Or.inr k1'⟩
def LSZ (N U : Nat) (fs A Z : Nat → Nat) (e u q R r0 : Nat) : Prop := ∀ (σ τ : am_S) (p r i : Nat) (x : Int64) (k : Int32), q - p ≤ R → RL σ τ N U fs A Z e u p q r x → r0 ≤ r → 2 * i ≤ p → ¬ k = 0 → ∀ n n', R + 1 < n → R + 1 < n' → R2 (g_Va_readList_51 n (nI u) (nI i) σ) (g_Mo_readList_45 n' (nI e) x 1 k τ) (LQ r0)
theorem ls_s {N U e u q R r0 : Nat} {fs A Z : Nat → Nat} (he : e < N) (hu : u < U) (ih : ∀ R', R' < R → LSZ N U fs A Z e u q R' r0) : LSZ N U fs A Z e u q R r0 := by
  intro σ τ p r i x k hR h hr0 hi hk n n' hn hn'
  have hq := RG_q h.2.1
  have hbad := h.2.2.2.1
  obtain ⟨n', rfl⟩ : ∃ z, n' = z + 2 := ⟨n' - 2, by omega⟩
  obtain ⟨n, rfl⟩ : ∃ z, n = z + 1 := ⟨n - 1, by omega⟩
  by_cases ci : i < 3000
  · rw [g_Va_readList_51, g_Mo_readList_45, if_pos (show nI i < 3000 from nI_lt (b := 3000) ci (by omega)), if_pos hbad, if_neg i10, if_neg hk]
    obtain ⟨v1, s1, w1, t1, e1, e1', f1, g1, k1⟩ := xu (m := 1) h.2.1 (by omega) (by omega)
    rw [show g_Cu_number 38 1 σ = _ from e1, show g_Mo_u 1 τ = _ from e1', bd_t, bd_t]
    unfold g_Va_readList_92
    rcases k1 with ⟨hq1, G1, rfl, rfl⟩ | ⟨b1, rfl, rfl⟩
    · -- a kind was read; there is fuel for another round
      obtain ⟨n, rfl⟩ : ∃ z, n = z + 1 := ⟨n - 1, by omega⟩
      have h1 := RL_cu h f1 g1 G1
      have hc := num_lt (σ.2.1 1) 1 p
      generalize num (σ.2.1 1) p 1 = c at *
      rw [lN_i, if_pos (RG_8 G1)]
      have ne : ∀ d, d < 256 → ¬ c = d → ¬ nI c = nI d := fun d hd hn z => hn ((nI_eq (by omega) (by omega)).mp z)
      -- the two ways a piece can end
      have okE : ∀ (s t : am_S) (p' r' : Nat) (x' : Int64), p + 2 ≤ p' → ¬ c = 0 → r0 ≤ r' → RL s t N U fs A Z e u p' q r' x' → R2 (TL (g_Va_readList_51 (n + 1)) (nI u) (nI i) s) (g_Mo_readList_239 (g_Mo_readList_45 (n' + 1)) (nI e) x' 1 (nI c) t) (LQ r0) := by
        intro s t p' r' x' hp' hc0 hr' hR'
        have hq' := RG_q hR'.2.1
        unfold TL g_Va_readList_122 g_Mo_readList_239 g_Mo_readList_256
        rw [if_pos hR'.2.2.2.1, if_pos (RG_3 hR'.2.1), show z01 0 = true from by decide, gd_t, if_neg i10, if_pos (RG_8 hR'.2.1), show nI i + 1 = nI (i + 1) from nI_add i 1, fi_same hR'.2.2.2.1]
        exact ih (R - 1) (by omega) s t p' r' (i + 1) x' (nI c) (by omega) hR' hr' (by omega) (nI_ne0 (by omega) (by omega)) (n + 1) (n' + 1) (by omega) (by omega)
      have noE : ∀ (s τ0 : am_S) (M : Option (Int32 × am_S)), FC s τ0 N U fs A Z → R1 M (fun y _ => y = 0) → R2 (TL (g_Va_readList_51 (n + 1)) (nI u) (nI i) s) M (LQ r0) := fun s τ0 M hF hM => R2_of (tl_no hF.2) hM (fun _ _ _ _ _ _ a b => Or.inr ⟨b, a⟩)
      have noP : ∀ (X : Option (Unit × am_S)) (τ0 : am_S) (M : Option (Int32 × am_S)), R1 X (fun _ s => FC s τ0 N U fs A Z) → R1 M (fun y _ => y = 0) → R2 (am_bd X fun _ σ4 => TL (g_Va_readList_51 (n + 1)) (nI u) (nI i) σ4) M (LQ r0) := fun X τ0 M hX hM => R2_l hX (fun _ s _ hF => noE s τ0 M hF hM)
      by_cases c0 : c = 0
      · rw [if_pos (show nI c = 0 from c0 ▸ rfl), if_pos (RG_3 G1)]
        subst c0
        rw [if_neg (by decide), if_neg (by decide), if_neg (by decide), if_neg (by decide), if_neg (by decide), if_neg (by decide), if_neg (by decide)]
        unfold g_Mo_readList_239 g_Mo_readList_256
        rw [if_neg i10, if_pos (RG_8 G1)]
        unfold g_Mo_readList_45 g_Mo_readList_261
        rw [if_neg i10, if_pos (show nI 0 = 0 from rfl)]
        exact R2_p (Or.inl ⟨rfl, h1.2.2.2.1, r, hr0, h1.2.2.1⟩)
      · rw [if_neg (show ¬ nI c = 0 from ne 0 (by omega) c0)]
        show R2 (am_bd (g_Va_readPiece (nI u) (nI c) s1) fun _ σ4 => TL (g_Va_readList_51 (n + 1)) (nI u) (nI i) σ4) _ (LQ r0)
        unfold g_Va_readPiece g_Va_readPiece_155
        by_cases c7 : 7 < c
        · rw [if_pos (show 7 < nI c from nI_lt (a := 7) c7 (by omega)), if_neg (show ¬ nI c = 1 from ne 1 (by omega) (by omega)), if_neg (show ¬ nI c = 5 from ne 5 (by omega) (by omega)), if_neg (show ¬ nI c = 4 from ne 4 (by omega) (by omega)), if_neg (show ¬ nI c = 2 from ne 2 (by omega) (by omega)), if_neg (show ¬ nI c = 3 from ne 3 (by omega) (by omega)), if_neg (show ¬ nI c = 6 from ne 6 (by omega) (by omega)), if_neg (show ¬ nI c = 7 from ne 7 (by omega) (by omega))]
          unfold g_Va_wrong g_Mo_readList_77
          rw [bd_t]
          refine noP _ t1 _ (R1_p ⟨?_, Or.inr (by rw [fi_at]; decide)⟩) (R1_p rfl)
          exact (CI_vw (CI_RL h1) (fr_fi fr_rf (by decide))).1
        · rw [if_neg (show ¬ 7 < nI c from nI_nlt (a := 7) (by omega) (by omega))]
          by_cases c1 : c = 1
          · -- a new base, by index
            rw [if_pos (show nI c = 1 from c1 ▸ rfl), if_pos (show nI c = 1 from c1 ▸ rfl)]
            obtain ⟨v2, s2, w2, t2, e2, e2', f2, g2, k2⟩ := xul G1
            rw [e2, e2', bd_t, bd_t]
            unfold g_Mo_readList_109 g_Mo_readList_110
            rcases k2 with ⟨p2, _, _, G2, rfl⟩ | ⟨b2, _⟩
            · have h2 := RL_cu h1 f2 g2 G2
              obtain ⟨v3, s3, y3, t3, e3, e3', k3⟩ := ata_2 (v := v2) h2 he hu
              rw [e3, e3', bd_t, bd_t, bd_t]
              rcases k3 with ⟨rfl, h3, hL⟩ | ⟨rfl, hF⟩
              · rw [if_neg i10, if_pos (RG_8 hL.2.1), h3]
                have fl : FR [(37, 5)] [] s3 (am_fl s3 37 5 v3) := fr_fl fr_rf (by simp)
                refine okE (am_fl s3 37 5 v3) t3 p2 r v3 (by omega) c0 hr0 ⟨EV_fr hL.1 fl (fr_rf (W := []) (A := [])) (by decide) (by decide), RG_fr hL.2.1 fl (fr_rf (W := []) (A := [])) (by decide), RN_fr hL.2.2.1 fl (fr_rf (W := []) (A := [])) (by decide), hL.2.2.2.1, fl_at, hL.2.2.2.2.2⟩
              · rw [if_pos rfl, r239_0]
                refine noE _ t2 _ ?_ (R1_p rfl)
                obtain ⟨⟨q1, q2, q3⟩, q4⟩ := hF
                have fl : FR [(37, 5)] [] s3 (am_fl s3 37 5 v3) := fr_fl fr_rf (by simp)
                exact ⟨⟨EV_fr q1 fl (fr_rf (W := []) (A := [])) (by decide) (by decide), q2.imp (fun ⟨p, q, z⟩ => ⟨p, q, CU_fr z fl (by decide) (by decide) (by decide)⟩) id, q3⟩, q4⟩
            · have F2 := FC_bd h1 f2 b2
              have E2 : EV s2 t2 N U fs A Z := EV_fr h1.1 f2 g2 (by decide) (by decide)
              refine noP _ t1 _ (R1_b (FC_o F2 (op_a (v := v2) F2.1 hu)) (fun w3 s3 _ hF => ?_)) ?_
              · obtain ⟨⟨q1, q2, q3⟩, q4⟩ := hF
                have fl : FR [(37, 5)] [] s3 (am_fl s3 37 5 w3) := fr_fl fr_rf (by simp)
                exact R1_p ⟨⟨EV_fr q1 fl (fr_rf (W := []) (A := [])) (by decide) (by decide), q2.imp (fun ⟨p, q, z⟩ => ⟨p, q, CU_fr z fl (by decide) (by decide) (by decide)⟩) id, q3⟩, q4⟩
              · obtain ⟨y3, t3, e3, q1, q2⟩ := ata_b (v := w2) E2 he hu (by rw [fr_b g2 (by decide)]; exact h1.2.2.2.2.2) b2.2
                rw [e3, bd_t, if_neg q1, r239_0]
                simp only [ite_self]
                exact R1_p rfl
          · rw [if_neg (show ¬ nI c = 1 from ne 1 (by omega) c1), if_neg (show ¬ nI c = 1 from ne 1 (by omega) c1)]
            by_cases c5 : c = 5
            · -- a new base
              rw [if_pos (show nI c = 5 from c5 ▸ rfl), if_neg (show ¬ nI c = 2 from ne 2 (by omega) (by omega)), if_neg (show ¬ nI c = 3 from ne 3 (by omega) (by omega)), if_neg (show ¬ nI c = 4 from ne 4 (by omega) (by omega)), if_pos (show nI c = 5 from c5 ▸ rfl)]
              obtain ⟨v2, s2, w2, t2, e2, e2', f2, g2, k2⟩ := xu (m := 8) G1 (by omega) (by omega)
              rw [show g_Cu_number 38 8 s1 = _ from e2, show g_Mo_u 8 t1 = _ from e2', bd_t, bd_t, bd_t]
              have fl : FR [(37, 5)] [] s2 (am_fl s2 37 5 v2) := fr_fl fr_rf (by simp)
              rcases k2 with ⟨hq2, G2, e4, e5⟩ | ⟨b2, _, _⟩
              · have h2 := RL_cu h1 f2 g2 G2
                rw [e5, ← e4]
                exact okE (am_fl s2 37 5 v2) t2 (p + 1 + 8) r v2 (by omega) c0 hr0 ⟨EV_fr h2.1 fl (fr_rf (W := []) (A := [])) (by decide) (by decide), RG_fr h2.2.1 fl (fr_rf (W := []) (A := [])) (by decide), RN_fr h2.2.2.1 fl (fr_rf (W := []) (A := [])) (by decide), h2.2.2.2.1, fl_at, h2.2.2.2.2.2⟩
              · rw [r239_b b2.2]
                refine noE _ t1 _ ?_ (R1_p rfl)
                obtain ⟨⟨q1, q2, q3⟩, q4⟩ := FC_bd h1 f2 b2
                exact ⟨⟨EV_fr q1 fl (fr_rf (W := []) (A := [])) (by decide) (by decide), q2.imp (fun ⟨p, q, z⟩ => ⟨p, q, CU_fr z fl (by decide) (by decide) (by decide)⟩) id, q3⟩, q4⟩
            · rw [if_neg (show ¬ nI c = 5 from ne 5 (by omega) c5), if_neg (show ¬ nI c = 5 from ne 5 (by omega) c5)]
              -- adding a range
              have addE : ∀ (s t : am_S) (p' : Nat) (a b : Int64), p + 2 ≤ p' → RL s t N U fs A Z e u p' q r x → R2 (am_bd (am_bd (g_Va_addRange a b s) fun _ σ25 => some ((), σ25)) fun _ σ4 => TL (g_Va_readList_51 (n + 1)) (nI u) (nI i) σ4) (am_bd (g_Mo_range a b t) fun v41 σ41 => g_Mo_readList_239 (g_Mo_readList_45 (n' + 1)) (nI e) x v41 (nI c) σ41) (LQ r0) := by
                intro s t p' a b hp' hL
                obtain ⟨_, s5, y5, t5, e5, e5', f5, g5, k5⟩ := ar_2 (x := a) (y := b) hL.2.2.1 (RG_8 hL.2.1)
                rw [e5, e5', bd_t, bd_t, bd_t]
                rcases k5 with ⟨rfl, hb⟩ | ⟨rfl, hN, hb⟩
                · rw [r239_0]
                  refine noE s5 t _ ⟨⟨EV_fr hL.1 f5 (fr_rf (W := []) (A := [])) (by decide) (by decide), Or.inl ⟨p', q, CU_fr hL.2.1.1 f5 (by decide) (by decide) (by decide)⟩, ?_⟩, Or.inr hb⟩ (R1_p rfl)
                  obtain ⟨_, s6, e6, hC, _⟩ := op_r (x := a) (y := b) (CI_RL hL)
                  rw [e5] at e6
                  cases e6
                  exact hC.2.2
                · exact okE s5 t5 p' (r + 1) x hp' c0 (by omega) ⟨EV_fr hL.1 f5 g5 (by decide) (by decide), RG_fr hL.2.1 f5 g5 (by decide), hN, hb.trans hL.2.2.2.1, (fr_j f5 (by decide)).trans hL.2.2.2.2.1, by rw [fr_b g5 (by decide)]; exact hL.2.2.2.2.2⟩
              by_cases c4 : c = 4
              · -- two offsets from the base
                rw [if_pos (show nI c = 4 from c4 ▸ rfl), if_neg (show ¬ nI c = 2 from ne 2 (by omega) (by omega)), if_neg (show ¬ nI c = 3 from ne 3 (by omega) (by omega)), if_pos (show nI c = 4 from c4 ▸ rfl)]
                obtain ⟨v2, s2, w2, t2, e2, e2', f2, g2, k2⟩ := xul G1
                rw [e2, e2', bd_t, bd_t]
                rcases k2 with ⟨p2, _, _, G2, rfl⟩ | ⟨b2, _⟩
                · have h2 := RL_cu h1 f2 g2 G2
                  obtain ⟨v3, s3, w3, t3, e3, e3', f3, g3, k3⟩ := xul G2
                  rw [e3, e3', bd_t, bd_t, h1.2.2.2.2.1, h2.2.2.2.2.1]
                  rcases k3 with ⟨p3, _, _, G3, rfl⟩ | ⟨b3, _⟩
                  · exact addE s3 t3 p3 (x + v2) (x + v3) (by omega) (RL_cu h2 f3 g3 G3)
                  · rw [rg_b b3.2, bd_t, r239_0]
                    exact noP _ t2 _ (fc_r (FC_bd h2 f3 b3)) (R1_p rfl)
                · have F2 := FC_bd h1 f2 b2
                  refine noP _ t1 _ ?_ ?_
                  · exact R1_b (FC_o F2 (op_l F2.1)) (fun _ s3 _ F3 => fc_r F3)
                  · refine R1_b (R1ml b2.2) (fun w3 t3 _ k3 => ?_)
                    rw [rg_b k3.1, bd_t, r239_0]
                    exact R1_p rfl
              · rw [if_neg (show ¬ nI c = 4 from ne 4 (by omega) c4), if_neg (show ¬ nI c = 4 from ne 4 (by omega) c4)]
                unfold g_Va_readPiece_105
                by_cases c23 : c = 2 ∨ c = 3
                · -- by index
                  have eC : (if nI c = 2 then (if nI c < 4 then am_bd (g_Cu_uleb 38 s1) fun v8 σ8 => am_bd (g_Va_addressAt (nI u) v8 σ8) fun v9 σ9 => g_Va_readPiece_134 (nI u) (nI c) v9 σ9 else am_bd (g_Cu_number 38 8 s1) fun v7 σ7 => g_Va_readPiece_134 (nI u) (nI c) v7 σ7) else if nI c = 3 then (if nI c < 4 then am_bd (g_Cu_uleb 38 s1) fun v8 σ8 => am_bd (g_Va_addressAt (nI u) v8 σ8) fun v9 σ9 => g_Va_readPiece_134 (nI u) (nI c) v9 σ9 else am_bd (g_Cu_number 38 8 s1) fun v7 σ7 => g_Va_readPiece_134 (nI u) (nI c) v7 σ7) else if nI c = 6 then (if nI c < 4 then am_bd (g_Cu_uleb 38 s1) fun v8 σ8 => am_bd (g_Va_addressAt (nI u) v8 σ8) fun v9 σ9 => g_Va_readPiece_134 (nI u) (nI c) v9 σ9 else am_bd (g_Cu_number 38 8 s1) fun v7 σ7 => g_Va_readPiece_134 (nI u) (nI c) v7 σ7) else if nI c = 7 then (if nI c < 4 then am_bd (g_Cu_uleb 38 s1) fun v8 σ8 => am_bd (g_Va_addressAt (nI u) v8 σ8) fun v9 σ9 => g_Va_readPiece_134 (nI u) (nI c) v9 σ9 else am_bd (g_Cu_number 38 8 s1) fun v7 σ7 => g_Va_readPiece_134 (nI u) (nI c) v7 σ7) else am_bd (g_Va_wrong s1) fun v23 σ23 => some ((), σ23)) = am_bd (g_Cu_uleb 38 s1) fun v8 σ8 => am_bd (g_Va_addressAt (nI u) v8 σ8) fun v9 σ9 => g_Va_readPiece_134 (nI u) (nI c) v9 σ9 := by
                    rw [if_pos (show nI c < 4 from nI_lt (b := 4) (by omega) (by omega))]
                    rcases c23 with z | z
                    · rw [if_pos (show nI c = 2 from z ▸ rfl)]
                    · rw [if_neg (show ¬ nI c = 2 from ne 2 (by omega) (by omega)), if_pos (show nI c = 3 from z ▸ rfl)]
                  rw [eC]
                  have eM : ∀ X, (if nI c = 2 then g_Mo_readList_132 (g_Mo_readList_45 (n' + 1)) (nI e) x (nI c) t1 else if nI c = 3 then g_Mo_readList_132 (g_Mo_readList_45 (n' + 1)) (nI e) x (nI c) t1 else X) = g_Mo_readList_132 (g_Mo_readList_45 (n' + 1)) (nI e) x (nI c) t1 := fun X => by
                    rcases c23 with z | z
                    · rw [if_pos (show nI c = 2 from z ▸ rfl)]
                    · rw [if_neg (show ¬ nI c = 2 from ne 2 (by omega) (by omega)), if_pos (show nI c = 3 from z ▸ rfl)]
                  rw [eM]
                  unfold g_Mo_readList_132 g_Mo_rangeByIndex g_Mo_rangeByIndex_20 g_Mo_rangeByIndex_82 g_Mo_rangeByIndex_83
                  obtain ⟨v2, s2, w2, t2, e2, e2', f2, g2, k2⟩ := xul G1
                  rw [e2, e2', bd_t, bd_t]
                  rcases k2 with ⟨p2, _, _, G2, rfl⟩ | ⟨b2, _⟩
                  · have h2 := RL_cu h1 f2 g2 G2
                    obtain ⟨v3, s3, y3, t3, e3, e3', k3⟩ := ata_2 (v := v2) h2 he hu
                    rw [e3, e3', bd_t, bd_t]
                    rcases k3 with ⟨rfl, h3, hL⟩ | ⟨rfl, hF⟩
                    · rw [if_neg i10, if_pos (RG_8 hL.2.1), h3]
                      unfold g_Va_readPiece_134 g_Va_rangeEnd g_Va_rangeEnd_45 g_Va_readPiece_155
                      obtain ⟨v4, s4, w4, t4, e4, e4', f4, g4, k4⟩ := xul hL.2.1
                      rw [e4, e4']
                      simp only [bd_t]
                      by_cases z3 : c = 3
                      · rw [if_neg (show ¬ nI c = 2 from ne 2 (by omega) (by omega)), if_neg (show ¬ nI c = 6 from ne 6 (by omega) (by omega)), if_pos (show nI c = 3 from z3 ▸ rfl)]
                        simp only [bd_t]
                        rcases k4 with ⟨p4, _, _, G4, rfl⟩ | ⟨b4, _⟩
                        · have h4 := RL_cu hL f4 g4 G4
                          have hx := addE s4 t4 p4 v3 (v3 + v4) (by omega) h4
                          obtain ⟨_, s5, y5, t5, e5, e5', f5, g5, k5⟩ := ar_2 (x := v3) (y := v3 + v4) h4.2.2.1 (RG_8 h4.2.1)
                          rw [e5'] at hx ⊢
                          rw [bd_t] at hx ⊢
                          have hz : z01 y5 = true := by rcases k5 with ⟨rfl, _⟩ | ⟨rfl, _⟩ <;> decide
                          rw [hz, gd_t, bd_t]
                          exact hx
                        · rw [rg_b b4.2, bd_t, show z01 0 = true from by decide, gd_t, bd_t, r239_0]
                          exact noP _ t3 _ (fc_r (FC_bd hL f4 b4)) (R1_p rfl)
                      · have z2 : c = 2 := c23.resolve_right z3
                        rw [if_pos (show nI c = 2 from z2 ▸ rfl), if_neg (show ¬ nI c = 3 from ne 3 (by omega) z3)]
                        rcases k4 with ⟨p4, _, _, G4, rfl⟩ | ⟨b4, _⟩
                        · have h4 := RL_cu hL f4 g4 G4
                          rw [if_pos (RG_8 G4)]
                          obtain ⟨v5, s5, y5, t5, e5, e5', k5⟩ := ata_2 (v := v4) h4 he hu
                          rw [e5, e5', bd_t, bd_t, bd_t]
                          rcases k5 with ⟨rfl, h5, hL5⟩ | ⟨rfl, hF⟩
                          · rw [if_neg i10, h5]
                            have hx := addE s5 t5 p4 v3 v5 (by omega) hL5
                            obtain ⟨_, s6, y6, t6, e6, e6', f6, g6, k6⟩ := ar_2 (x := v3) (y := v5) hL5.2.2.1 (RG_8 hL5.2.1)
                            rw [e6'] at hx ⊢
                            rw [bd_t] at hx ⊢
                            rcases k6 with ⟨rfl, _⟩ | ⟨rfl, _⟩
                            · rw [if_pos rfl, show z01 0 = true from by decide, gd_t, bd_t]
                              exact hx
                            · rw [if_neg i10, show z01 1 = true from by decide, gd_t, bd_t]
                              exact hx
                          · rw [if_pos rfl, show z01 0 = true from by decide, gd_t, bd_t, r239_0]
                            exact noP _ t4 _ (fc_r hF) (R1_p rfl)
                        · rw [if_neg b4.2, show z01 0 = true from by decide, gd_t, bd_t, r239_0]
                          have F4 := FC_bd hL f4 b4
                          refine noP _ t3 _ ?_ (R1_p rfl)
                          refine R1_b (R1_b (FC_o F4 (op_a (v := v4) F4.1 hu)) (fun w s _ F5 => R1_p F5)) (fun w5 s5 _ F5 => fc_r F5)
                    · rw [if_pos rfl, bd_t, r239_0]
                      exact noP _ t2 _ (fc_p hF hu) (R1_p rfl)
                  · have F2 := FC_bd h1 f2 b2
                    have E2 : EV s2 t2 N U fs A Z := EV_fr h1.1 f2 g2 (by decide) (by decide)
                    refine noP _ t1 _ (R1_b (FC_o F2 (op_a (v := v2) F2.1 hu)) (fun w3 s3 _ F3 => fc_p F3 hu)) ?_
                    obtain ⟨y3, t3, e3, q1, q2⟩ := ata_b (v := w2) E2 he hu (by rw [fr_b g2 (by decide)]; exact h1.2.2.2.2.2) b2.2
                    rw [e3, bd_t, if_neg q1]
                    simp only [ite_self]
                    rw [bd_t, r239_0]
                    exact R1_p rfl
                · -- two addresses, or an address and a length
                  have c67 : c = 6 ∨ c = 7 := by omega
                  have eC : (if nI c = 2 then (if nI c < 4 then am_bd (g_Cu_uleb 38 s1) fun v8 σ8 => am_bd (g_Va_addressAt (nI u) v8 σ8) fun v9 σ9 => g_Va_readPiece_134 (nI u) (nI c) v9 σ9 else am_bd (g_Cu_number 38 8 s1) fun v7 σ7 => g_Va_readPiece_134 (nI u) (nI c) v7 σ7) else if nI c = 3 then (if nI c < 4 then am_bd (g_Cu_uleb 38 s1) fun v8 σ8 => am_bd (g_Va_addressAt (nI u) v8 σ8) fun v9 σ9 => g_Va_readPiece_134 (nI u) (nI c) v9 σ9 else am_bd (g_Cu_number 38 8 s1) fun v7 σ7 => g_Va_readPiece_134 (nI u) (nI c) v7 σ7) else if nI c = 6 then (if nI c < 4 then am_bd (g_Cu_uleb 38 s1) fun v8 σ8 => am_bd (g_Va_addressAt (nI u) v8 σ8) fun v9 σ9 => g_Va_readPiece_134 (nI u) (nI c) v9 σ9 else am_bd (g_Cu_number 38 8 s1) fun v7 σ7 => g_Va_readPiece_134 (nI u) (nI c) v7 σ7) else if nI c = 7 then (if nI c < 4 then am_bd (g_Cu_uleb 38 s1) fun v8 σ8 => am_bd (g_Va_addressAt (nI u) v8 σ8) fun v9 σ9 => g_Va_readPiece_134 (nI u) (nI c) v9 σ9 else am_bd (g_Cu_number 38 8 s1) fun v7 σ7 => g_Va_readPiece_134 (nI u) (nI c) v7 σ7) else am_bd (g_Va_wrong s1) fun v23 σ23 => some ((), σ23)) = am_bd (g_Cu_number 38 8 s1) fun v7 σ7 => g_Va_readPiece_134 (nI u) (nI c) v7 σ7 := by
                    rw [if_neg (show ¬ nI c < 4 from nI_nlt (b := 4) (by omega) (by omega)), if_neg (show ¬ nI c = 2 from ne 2 (by omega) (by omega)), if_neg (show ¬ nI c = 3 from ne 3 (by omega) (by omega))]
                    rcases c67 with z | z
                    · rw [if_pos (show nI c = 6 from z ▸ rfl)]
                    · rw [if_neg (show ¬ nI c = 6 from ne 6 (by omega) (by omega)), if_pos (show nI c = 7 from z ▸ rfl)]
                  rw [eC, if_neg (show ¬ nI c = 2 from ne 2 (by omega) (by omega)), if_neg (show ¬ nI c = 3 from ne 3 (by omega) (by omega)), if_pos (show 5 < nI c from nI_lt (a := 5) (by omega) (by omega))]
                  unfold g_Mo_readList_234 g_Va_readPiece_134 g_Va_rangeEnd g_Va_rangeEnd_45 g_Va_readPiece_155
                  obtain ⟨v2, s2, w2, t2, e2, e2', f2, g2, k2⟩ := xu (m := 8) G1 (by omega) (by omega)
                  rw [show g_Cu_number 38 8 s1 = _ from e2, show g_Mo_u 8 t1 = _ from e2', bd_t, bd_t, if_neg (show ¬ nI c = 2 from ne 2 (by omega) (by omega))]
                  by_cases z6 : c = 6
                  · rw [if_pos (show nI c = 6 from z6 ▸ rfl), if_pos (show nI c = 6 from z6 ▸ rfl)]
                    rcases k2 with ⟨hq2, G2, e4, e5⟩ | ⟨b2, _, _⟩
                    · have h2 := RL_cu h1 f2 g2 G2
                      obtain ⟨v3, s3, w3, t3, e3, e3', f3, g3, k3⟩ := xu (m := 8) G2 (by omega) (by omega)
                      rw [show g_Cu_number 38 8 s2 = _ from e3, show g_Mo_u 8 t2 = _ from e3', bd_t, bd_t, bd_t, e5, ← e4]
                      rcases k3 with ⟨hq3, G3, e6, e7⟩ | ⟨b3, _, _⟩
                      · rw [e7, ← e6]
                        exact addE s3 t3 (p + 1 + 8 + 8) v2 v3 (by omega) (RL_cu h2 f3 g3 G3)
                      · rw [rg_b b3.2, bd_t, r239_0]
                        exact noP _ t2 _ (fc_r (FC_bd h2 f3 b3)) (R1_p rfl)
                    · have F2 := FC_bd h1 f2 b2
                      refine noP _ t1 _ ?_ ?_
                      · exact R1_b (R1_b (FC_o F2 (op_u (m := 8) F2.1 (by decide))) (fun _ _ _ F3 => R1_p F3)) (fun _ _ _ F3 => fc_r F3)
                      · refine R1_b (R1mu b2.2) (fun w3 t3 _ k3 => ?_)
                        rw [rg_b k3.2.1, bd_t, r239_0]
                        exact R1_p rfl
                  · rw [if_neg (show ¬ nI c = 6 from ne 6 (by omega) z6), if_neg (show ¬ nI c = 6 from ne 6 (by omega) z6)]
                    rcases k2 with ⟨hq2, G2, e4, e5⟩ | ⟨b2, _, _⟩
                    · have h2 := RL_cu h1 f2 g2 G2
                      obtain ⟨v3, s3, w3, t3, e3, e3', f3, g3, k3⟩ := xul G2
                      rw [e3, e3', bd_t, bd_t, bd_t, e5, ← e4]
                      rcases k3 with ⟨p3, _, _, G3, rfl⟩ | ⟨b3, _⟩
                      · exact addE s3 t3 p3 v2 (v2 + v3) (by omega) (RL_cu h2 f3 g3 G3)
                      · rw [rg_b b3.2, bd_t, r239_0]
                        exact noP _ t2 _ (fc_r (FC_bd h2 f3 b3)) (R1_p rfl)
                    · have F2 := FC_bd h1 f2 b2
                      refine noP _ t1 _ ?_ ?_
                      · exact R1_b (R1_b (FC_o F2 (op_l F2.1)) (fun _ _ _ F3 => R1_p F3)) (fun _ _ _ F3 => fc_r F3)
                      · refine R1_b (R1ml b2.2) (fun w3 t3 _ k3 => ?_)
                        rw [rg_b k3.1, bd_t, r239_0]
                        exact R1_p rfl
    · rw [show (0 : Int64).toInt32 = 0 from by decide, if_pos rfl, if_neg b1.1, if_neg b1.2]
      unfold g_Mo_readList_77
      show R2 (am_bd (g_Va_readPiece (nI u) 0 s1) fun _ σ4 => TL (g_Va_readList_51 n) (nI u) (nI i) σ4) _ (LQ r0)
      unfold g_Va_readPiece g_Va_readPiece_155 g_Va_wrong
      rw [if_neg (by decide), if_neg (by decide), if_neg (by decide), if_neg (by decide), if_neg (by decide), if_neg (by decide), if_neg (by decide), bd_t, bd_t]
      obtain ⟨n, rfl⟩ : ∃ z, n = z + 1 := ⟨n - 1, by omega⟩
      exact R2_of (tl_no (Or.inr (by rw [fi_at]; decide))) (R1_p (P := fun y _ => y = 0) rfl) (fun _ _ _ _ _ _ a b => Or.inr ⟨b, a⟩)
  · omega

theorem ls_l {N U e u q r0 : Nat} {fs A Z : Nat → Nat} (he : e < N) (hu : u < U) : ∀ R, LSZ N U fs A Z e u q R r0 := by
  intro R
  induction R using Nat.strongRecOn with
  | _ R ih => exact ls_s he hu ih
