/-! the ranges of an entry, both sides -/
def DN (σ τ : am_S) (N : Nat) (fs A Z : Nat → Nat) (e u : Nat) : Prop := LK (σ.2.2 11 e) → ∀ m, m < 7 → ¬ τ.2.1 20 (11 * e + m) = 0 → rsv (σ.2.1 1) A Z N τ e u (fs u) m = some (σ.2.2 16 (7 * e + m))
theorem hp_c {e : Nat} {σ : am_S} (he : e < 200) (h3 : σ.2.1 15 (7 * e + 3) = 0) : g_En_hasPlaces (nI e) σ = some (if σ.2.1 15 (7 * e + 1) = 0 ∨ σ.2.1 15 (7 * e + 2) = 0 then 0 else 1, σ) := by
  unfold g_En_hasPlaces g_En_hasPlaces_27 g_En_hasPlaces_31 g_En_hasPlaces_32
  rw [show g_En_has (nI e) 3 σ = _ from ha_c (k := 3) he (by decide), bd_t, if_pos h3, if_pos rfl, show g_En_has (nI e) 1 σ = _ from ha_c (k := 1) he (by decide), bd_t]
  by_cases c1 : σ.2.1 15 (7 * e + 1) = 0
  · rw [if_pos c1, if_pos rfl, if_pos (Or.inl c1)]; rfl
  · rw [if_neg c1, if_neg i10, show g_En_has (nI e) 2 σ = _ from ha_c (k := 2) he (by decide), bd_t]
    by_cases c2 : σ.2.1 15 (7 * e + 2) = 0
    · rw [if_pos c2, if_pos rfl, if_pos (Or.inr c2)]; rfl
    · rw [if_neg c2, if_neg i10, if_neg (fun z => z.elim c1 c2)]; rfl
theorem adS_f {B : Nat → Int32} {A Z : Nat → Nat} {f : Int32} {v b x : Int64} (h : adS B A Z f v b = some x) : f = 1 ∨ f = 27 := by
  apply Classical.byContradiction
  intro z
  rw [adS_no z] at h
  cases h
theorem lq_z {y : Int32} {r0 : Nat} {s t : am_S} (h : LQ r0 () s y t) : z01 y = true := by
  rcases h with ⟨rfl, _⟩ | ⟨rfl, _⟩ <;> decide
theorem rr_l {σ τ : am_S} {N U e u r : Nat} {fs A Z : Nat → Nat} {K : Int32 → am_S → Option (Int32 × am_S)} {H : Int32 → am_S → Option (Int32 × am_S)} {Q : Int32 → am_S → Int32 → am_S → Prop} (h : EV σ τ N U fs A Z) (he : e < N) (hu : u < U) (h13 : σ.2.1 13 e = nI u) (h19 : τ.2.1 19 e = nI u) (hLK : LK (σ.2.2 11 e)) (hV : ∀ k, k < 7 → SV σ τ (7 * e + k) (11 * e + k)) (hR : RN σ τ r) (hb : σ.1.1 37 6 = 0) (hD : DN σ τ N fs A Z e u) (hDf : DN σ τ N fs A Z (fs u) u)
    (hy : ∀ s t y, FR [(32, 4), (37, 5), (37, 6), (38, 1), (38, 2), (38, 3), (39, 1), (39, 2), (39, 3)] [33, 34] σ s → FR [(0, 33), (0, 37), (0, 6), (0, 7), (0, 8)] [23, 24] τ t → LQ r () s y t → R2 (g_Va_read_153 K (nI e) s) (H y t) Q) : R2 (g_Va_read_100 K (nI e) σ) (am_bd (g_Mo_readRanges (nI e) τ) H) Q := by
  have hl := EV_l h
  have hu4 := EV_u4 h
  have he2 : e < 200 := by omega
  have hf := EV_fl h u hu
  obtain ⟨q1, q2, q3, q4, q5, q6⟩ := EV_un h u hu
  obtain ⟨q5, q7⟩ := q5 hf
  obtain ⟨uf, huf, Ef⟩ := EV_en h (fs u) hf
  have huf' : uf = u := (nI_eq (by omega) (by omega)).mp (Ef.1.symm.trans q5)
  subst huf'
  have hVf := Ef.2.2.2.2.2.1.1 (Or.inl q7)
  have hB := EV_b h
  unfold g_Va_read_100 g_Mo_readRanges
  rw [show g_En_has (nI e) 3 σ = _ from ha_c (k := 3) he2 (by decide), bd_t, show g_Mo_has (nI e) 3 τ = _ from ha_m (k := 3) he2 (by decide) (hV 3 (by decide)).2.1, bd_t, (hV 3 (by decide)).1]
  by_cases c3 : τ.2.1 20 (11 * e + 3) = 0
  · rw [if_pos c3, if_pos rfl, if_pos rfl, hp_c he2 ((hV 3 (by decide)).1.trans c3), bd_t, (hV 1 (by decide)).1, (hV 2 (by decide)).1, show g_Mo_has (nI e) 1 τ = _ from ha_m (k := 1) he2 (by decide) (hV 1 (by decide)).2.1, bd_t]
    unfold g_Mo_readRanges_27
    by_cases c1 : τ.2.1 20 (11 * e + 1) = 0
    · rw [if_pos (Or.inl c1), if_pos rfl, if_pos c1, if_pos rfl, bd_t]
      exact hy σ τ 1 fr_rf fr_rf (Or.inl ⟨rfl, hb, r, Nat.le_refl _, hR⟩)
    · rw [if_neg c1, if_neg i10, show g_Mo_has (nI e) 2 τ = _ from ha_m (k := 2) he2 (by decide) (hV 2 (by decide)).2.1, bd_t]
      by_cases c2 : τ.2.1 20 (11 * e + 2) = 0
      · rw [if_pos (Or.inr c2), if_pos rfl, if_pos c2, if_pos rfl, bd_t]
        exact hy σ τ 1 fr_rf fr_rf (Or.inl ⟨rfl, hb, r, Nat.le_refl _, hR⟩)
      · rw [if_neg (show ¬ (τ.2.1 20 (11 * e + 1) = 0 ∨ τ.2.1 20 (11 * e + 2) = 0) from fun z => z.elim c1 c2), if_neg i10, if_neg c2, if_neg i10, show g_En_valueOf (nI e) 1 σ = _ from vo_c (k := 1) he2 (by decide), bd_t, show g_En_valueOf (nI e) 2 σ = _ from vo_c (k := 2) he2 (by decide), bd_t]
        have d1 : adS (τ.2.1 2) A Z (τ.2.1 20 (11 * e + 1)) (τ.2.2 21 (11 * e + 1)) (bas τ (fs uf) 9) = some (σ.2.2 16 (7 * e + 1)) := by rw [← hB]; exact hD hLK 1 (by decide) c1
        obtain ⟨y1, t1, e1, k1⟩ := ad_m (k := 1) h he hu h19 (by decide) (adS_f d1)
        rw [d1] at k1
        obtain ⟨g1, rfl, k1⟩ := k1
        rw [show g_Mo_address (nI e) 1 τ = _ from e1, bd_t, show g_Mo_formAt (nI e) 2 t1 = _ from fo_m (k := 2) he2 (by decide), bd_t, fr_b g1 (k := 20) (by decide), k1]
        have d2 := hD hLK 2 (by decide) c2
        have d2' : (if cfB (τ.2.1 20 (11 * e + 2)) = true then some ((if τ.2.1 20 (11 * e + 1) = 0 then 0 else (adS (σ.2.1 1) A Z (τ.2.1 20 (11 * e + 1)) (τ.2.2 21 (11 * e + 1)) (bas τ (fs uf) 9)).getD 0) + τ.2.2 21 (11 * e + 2)) else adS (σ.2.1 1) A Z (τ.2.1 20 (11 * e + 2)) (τ.2.2 21 (11 * e + 2)) (bas τ (fs uf) 9)) = some (σ.2.2 16 (7 * e + 2)) := d2
        rw [hB, if_neg c1, d1] at d2'
        -- the range itself, once both ends are known
        have fin : ∀ t, FR [(0, 37)] [] τ t → R2 (am_bd (g_Va_addRange (σ.2.2 16 (7 * e + 1)) (σ.2.2 16 (7 * e + 2)) σ) fun _ σ23 => g_Va_read_153 K (nI e) σ23) (am_bd (am_bd (g_Mo_range (σ.2.2 16 (7 * e + 1)) (σ.2.2 16 (7 * e + 2)) (am_fi t 0 8 0)) fun v1 σ1 => if v1 = 0 then am_gd (z01 0) (some (0, σ1)) else am_gd (z01 1) (some (1, σ1))) H) Q := by
          intro t gt
          have g0 : FR [(0, 37), (0, 8)] [] τ (am_fi t 0 8 0) := fr_fi (fr_up gt (by decide) (fun _ h => h)) (by simp)
          obtain ⟨_, s5, y5, t5, e5, e5', f5, g5, k5⟩ := ar_2 (x := σ.2.2 16 (7 * e + 1)) (y := σ.2.2 16 (7 * e + 2)) (RN_fr hR (fr_rf (W := []) (A := [])) g0 (by decide)) fi_at
          rw [e5, e5', bd_t, bd_t]
          have f5' := fr_up (W' := [(32, 4), (37, 5), (37, 6), (38, 1), (38, 2), (38, 3), (39, 1), (39, 2), (39, 3)]) (A' := [33, 34]) f5 (by decide) (fun _ h => h)
          have g5' := fr_tr (fr_up (W' := [(0, 33), (0, 37), (0, 6), (0, 7), (0, 8)]) (A' := [23, 24]) g0 (by decide) (fun _ h => by cases h)) (fr_up g5 (by decide) (fun _ h => h))
          rcases k5 with ⟨rfl, k5⟩ | ⟨rfl, k5, k6⟩
          · rw [if_pos rfl, show z01 0 = true from by decide, gd_t, bd_t]
            exact hy s5 t5 0 f5' g5' (Or.inr ⟨rfl, k5⟩)
          · rw [if_neg i10, show z01 1 = true from by decide, gd_t, bd_t]
            exact hy s5 t5 1 f5' g5' (Or.inl ⟨rfl, k6.trans hb, r + 1, by omega, k5⟩)
        obtain ⟨yc, tc, ec, hic⟩ := ic_m (f := τ.2.1 20 (11 * e + 2)) (τ := t1)
        obtain ⟨rfl, hic⟩ := hic
        rw [ec, bd_t]
        unfold g_Mo_readRanges_62 g_Mo_readRanges_67 g_Mo_readRanges_112 g_Mo_readRanges_122 g_Mo_readRanges_123
        rcases hic with ⟨rfl, cc⟩ | ⟨rfl, cc⟩
        · rw [if_neg i10, if_neg i10, if_neg i10, show g_Mo_formAt (nI e) 2 (am_fi tc 0 8 0) = _ from fo_m (k := 2) he2 (by decide), bd_t, show (am_fi tc 0 8 0).2.1 20 (11 * e + 2) = τ.2.1 20 (11 * e + 2) from by rw [fi_a, fr_b g1 (by decide)]]
          obtain ⟨yd, td, ed, hid⟩ := ic_m (f := τ.2.1 20 (11 * e + 2)) (τ := am_fi tc 0 8 0)
          obtain ⟨rfl, hid⟩ := hid
          rw [ed, bd_t]
          rcases hid with ⟨rfl, _⟩ | ⟨rfl, z⟩
          · rw [if_neg i10, show g_Mo_valueAt (nI e) 2 (am_fi tc 0 8 0) = _ from va_m (k := 2) he2 (by decide), bd_t, show (am_fi tc 0 8 0).2.2 21 (11 * e + 2) = τ.2.2 21 (11 * e + 2) from by rw [fi_a, fr_c g1 (by decide)]]
            rw [if_pos cc] at d2'
            have d3 : σ.2.2 16 (7 * e + 1) + τ.2.2 21 (11 * e + 2) = σ.2.2 16 (7 * e + 2) := Option.some.inj d2'
            rw [d3]
            exact fin tc g1
          · exact absurd cc z
        · rw [if_pos rfl]
          rw [if_neg cc] at d2'
          have h' := EV_fr h (fr_rf (W := []) (A := [])) g1 (by decide) (by decide)
          obtain ⟨y2, t2, e2, k2⟩ := ad_m (k := 2) h' he hu (by rw [fr_b g1 (by decide)]; exact h19) (by decide) (by rw [fr_b g1 (by decide)]; exact adS_f d2')
          rw [cA_fr g1, d2'] at k2
          obtain ⟨g2, rfl, k2⟩ := k2
          rw [show g_Mo_address (nI e) 2 tc = _ from e2, bd_t, if_neg i10, if_neg i10, if_neg i10, show g_Mo_formAt (nI e) 2 (am_fi t2 0 8 0) = _ from fo_m (k := 2) he2 (by decide), bd_t, show (am_fi t2 0 8 0).2.1 20 (11 * e + 2) = τ.2.1 20 (11 * e + 2) from by rw [fi_a, fr_b g2 (by decide), fr_b g1 (by decide)]]
          obtain ⟨yd, td, ed, hid⟩ := ic_m (f := τ.2.1 20 (11 * e + 2)) (τ := am_fi t2 0 8 0)
          obtain ⟨rfl, hid⟩ := hid
          rw [ed, bd_t]
          rcases hid with ⟨rfl, z⟩ | ⟨rfl, _⟩
          · exact absurd z cc
          · rw [if_pos rfl, show (am_fi t2 0 8 0).1.2 0 37 = σ.2.2 16 (7 * e + 2) from k2]
            exact fin t2 (fr_tr g1 g2)
  · rw [if_neg c3, if_neg i10, if_neg i10, show g_Mo_valueAt (nI e) 3 τ = _ from va_m (k := 3) he2 (by decide), bd_t, show g_Mo_formAt (nI e) 3 τ = _ from fo_m (k := 3) he2 (by decide), bd_t]
    have d3 : lsS (τ.2.1 2) A Z (τ.2.1 20 (11 * e + 3)) (τ.2.2 21 (11 * e + 3)) (bas τ (fs uf) 10) = some (σ.2.2 16 (7 * e + 3)) := by rw [← hB]; exact hD hLK 3 (by decide) c3
    -- from the list's place on
    have fin : R2 (am_bd (g_Va_readList (nI e) σ) fun _ σ9 => g_Va_read_153 K (nI e) σ9) (am_bd (g_Mo_readRanges_182 (nI e) (σ.2.2 16 (7 * e + 3)) τ) H) Q := by
      unfold g_Va_readList g_Mo_readRanges_182
      rw [inb_nI he2 (by decide), gd_t, nI_clamp (by omega), h13, inb_nI (show uf < 4 by omega) (by decide), gd_t, nI_clamp (by omega), q2, lo_c (by omega), bd_t]
      generalize hbase : (if σ.2.1 15 (7 * fs uf + 1) = 0 then 0 else σ.2.2 16 (7 * fs uf + 1)) = bs
      have fl : FR [(37, 5)] [] σ (am_fl σ 37 5 bs) := fr_fl fr_rf (by simp)
      rw [show g_En_valueOf (nI e) 3 (am_fl σ 37 5 bs) = _ from vo_c (k := 3) he2 (by decide), bd_t, show (am_fl σ 37 5 bs).2.2 16 (7 * e + 3) = σ.2.2 16 (7 * e + 3) from rfl]
      have hE1 := EV_fr h fl (fr_rf (W := []) (A := [])) (by decide) (by decide)
      have hSR : ∃ a z, a + z ≤ 3000 ∧ R2 (g_Se_point 38 (nI 6) (σ.2.2 16 (7 * e + 3)) (am_fl σ 37 5 bs)) (g_Mo_enter (nI 6) (σ.2.2 16 (7 * e + 3)) τ) (fun _ s' _ t' => FR [(38, 1), (38, 2), (38, 3)] [] (am_fl σ 37 5 bs) s' ∧ FR [(0, 6), (0, 7), (0, 8)] [] τ t' ∧ ((∃ p, p ≤ a + z ∧ RG 38 s' t' p (a + z)) ∨ BD 38 s' t')) := by
        obtain ⟨h6, h7, hle⟩ := EV_xc hE1 6 (by decide)
        obtain ⟨h3, h4, _⟩ := EV_xm h 6 (by decide)
        refine ⟨A 6, Z 6, hle, ?_⟩
        have h4' : τ.2.1 4 6 = nI (A 6 + Z 6 - A 6) := by rw [h4]; congr 1; omega
        by_cases c : σ.2.2 16 (7 * e + 3) < 0 ∨ lN (A 6 + Z 6 - A 6) < σ.2.2 16 (7 * e + 3)
        · have e1 := po_bad (k := 38) (s := 6) (by decide) h6 h7 (by omega) hle c
          have e2 := en_bad (s := 6) (by decide) h3 h4' (by omega) hle c
          exact ⟨_, _, _, _, e1, e2, f_Se_point e1, f_Mo_enter e2, Or.inr ⟨by rw [fi_at]; decide, by rw [fi_at]; decide⟩⟩
        · obtain ⟨n, hn, ex⟩ := in_pos (d := A 6 + Z 6 - A 6) (by omega) c
          rw [ex]
          have e1 := po_ok (k := 38) (s := 6) (n := n) (by decide) h6 h7 hle (by omega)
          have e2 := en_ok (s := 6) (n := n) (by decide) h3 h4' hle (by omega)
          exact ⟨_, _, _, _, e1, e2, f_Se_point e1, f_Mo_enter e2, Or.inl ⟨A 6 + n, by omega, CU_0 (by omega) hle, RU_0 (by omega) hle, hB⟩⟩
      obtain ⟨a, z, haz, _, s1, _, t1, e1, e1', f1, g1, k1⟩ := hSR
      rw [show g_Se_point 38 6 _ _ = _ from e1, show g_Mo_enter 6 _ τ = _ from e1', bd_t, bd_t]
      -- the unit's low address
      unfold g_Mo_readList g_Mo_readList_37 g_Mo_readList_38
      have t19 : t1.2.1 19 e = nI uf := by rw [fr_b g1 (by decide)]; exact h19
      have t14 : t1.2.1 14 uf = nI (fs uf) := by rw [fr_b g1 (by decide)]; exact q3
      have t20 : t1.2.1 20 = τ.2.1 20 := fr_b g1 (by decide)
      have F1 : FR [(37, 5), (38, 1), (38, 2), (38, 3)] [] σ s1 := fr_tr (fr_up fl (by decide) (fun _ h => h)) (fr_up f1 (by decide) (fun _ h => h))
      have hE2 := EV_fr h F1 g1 (by decide) (by decide)
      have main : ∀ t2, FR [(0, 37)] [] t1 t2 → R2 (am_bd (g_Va_readList_51 4000 (nI uf) 0 s1) fun _ σ9 => g_Va_read_153 K (nI e) σ9) (am_bd (am_bd (g_Mo_readList_45 4000 (nI e) bs 1 1 t2) fun v7 σ7 => am_gd (z01 v7) (some (v7, σ7))) H) Q := by
        intro t2 g2
        have hR2 : RN s1 t2 r := RN_fr (RN_fr hR F1 g1 (by decide)) (fr_rf (W := []) (A := [])) g2 (by decide)
        have hx : R2 (g_Va_readList_51 4000 (nI uf) 0 s1) (g_Mo_readList_45 4000 (nI e) bs 1 1 t2) (LQ r) := by
          rcases k1 with ⟨p, hp, G⟩ | b
          · refine ls_l he hu 3000 s1 t2 p r 0 bs 1 (by omega) ⟨EV_fr hE2 (fr_rf (W := []) (A := [])) g2 (by decide) (by decide), RG_fr G (fr_rf (W := []) (A := [])) g2 (by decide), hR2, (fr_i F1 (by decide)).trans hb, ?_, by rw [fr_b g2 (by decide)]; exact t19⟩ (Nat.le_refl _) (by omega) i10 4000 4000 (by omega) (by omega)
            rw [fr_j f1 (by decide), fl_at]
          · -- the list is not there
            have b2 : ¬ t2.1.1 0 8 = 0 := by rw [fr_i g2 (by decide)]; exact b.2
            refine R2_of (P := fun _ s => ¬ s.1.1 37 6 = 0) ?_ (P' := fun y _ => y = 0) ?_ (fun _ _ _ _ _ _ a b => Or.inr ⟨b, a⟩)
            · rw [g_Va_readList_51, if_pos (by decide), if_pos ((fr_i F1 (by decide)).trans hb), bn b.1, bd_t, show (0 : Int64).toInt32 = 0 from by decide, if_pos rfl, if_neg (by rw [fi_at]; decide)]
              show R1 (am_bd (g_Va_readPiece (nI uf) 0 _) fun _ σ4 => TL (g_Va_readList_51 3999) (nI uf) 0 σ4) _
              unfold g_Va_readPiece g_Va_readPiece_155 g_Va_wrong
              rw [if_neg (by decide), if_neg (by decide), if_neg (by decide), if_neg (by decide), if_neg (by decide), if_neg (by decide), if_neg (by decide), bd_t, bd_t]
              exact tl_no (n := 3998) (Or.inr (by rw [fi_at]; decide))
            · rw [g_Mo_readList_45, if_neg i10, if_neg i10, bmu b2, bd_t, if_neg (by rw [fi_at]; decide)]
              exact R1_p rfl
        obtain ⟨_, s3, y3, t3, e3, e3', k3⟩ := hx
        have f3 := f_Va_readList_51 _ e3
        have g3 := f_Mo_readList_45 _ e3'
        rw [e3, e3', bd_t, bd_t, lq_z k3, gd_t, bd_t]
        exact hy s3 t3 y3 (fr_tr (fr_up F1 (by decide) (fun _ h => by cases h)) f3) (fr_tr (fr_up (W' := [(0, 33), (0, 37), (0, 6), (0, 7), (0, 8)]) g1 (by decide) (fun _ h => by cases h)) (fr_tr (fr_up g2 (by decide) (fun _ h => by cases h)) (fr_up g3 (by decide) (fun _ h => h)))) k3
      rw [inb_nI he2 (by decide), gd_t, nI_clamp (by omega), t19, inb_nI (show uf < 4 by omega) (by decide), gd_t, nI_clamp (by omega), t14, show g_Mo_has (nI (fs uf)) 1 t1 = _ from ha_m (k := 1) (by omega) (by decide) (by rw [t20]; exact (hVf 1 (by decide)).2.1), bd_t, t20]
      rw [(hVf 1 (by decide)).1] at hbase
      by_cases cf : τ.2.1 20 (11 * fs uf + 1) = 0
      · rw [if_pos cf] at hbase
        rw [if_pos cf, if_pos rfl, hbase]
        exact main t1 fr_rf
      · rw [if_neg cf] at hbase
        rw [if_neg cf, if_neg i10]
        have d1 : adS (τ.2.1 2) A Z (τ.2.1 20 (11 * fs uf + 1)) (τ.2.2 21 (11 * fs uf + 1)) (bas τ (fs uf) 9) = some (σ.2.2 16 (7 * fs uf + 1)) := by rw [← hB]; exact hDf (Or.inl q7) 1 (by decide) cf
        obtain ⟨y1, t2, e2, k2⟩ := ad_m (k := 1) hE2 hf hu (by rw [fr_b g1 (by decide)]; exact Ef.2.1) (by decide) (by rw [t20]; exact adS_f d1)
        rw [fr_b g1 (k := 2) (by decide), t20, fr_c g1 (k := 21) (by decide), bas_fr g1 (by decide) (by decide), d1] at k2
        obtain ⟨g2, rfl, k2⟩ := k2
        rw [show g_Mo_address (nI (fs uf)) 1 t1 = _ from e2, bd_t, if_neg i10, k2, hbase]
        exact main t2 g2
    unfold lsS at d3
    by_cases c23 : τ.2.1 20 (11 * e + 3) = 23
    · rw [if_pos c23] at d3
      rw [if_neg (by rw [c23]; decide), Option.some.inj d3]
      exact fin
    · rw [if_neg c23] at d3
      by_cases c35 : τ.2.1 20 (11 * e + 3) = 35
      · rw [if_pos c35] at d3
        rw [if_pos c35, show g_Mo_baseOf (nI e) 10 τ = _ from ba_m (k := 3) h he hu h19 (by decide), bd_t]
        obtain ⟨v, t, ei, ht, hv⟩ := ix_m (s := 6) (n := 4) (b := bas τ (fs uf) 10) (i := τ.2.2 21 (11 * e + 3)) (EV_xm h) (by decide) (by decide)
        rw [show g_Mo_indexed 6 (bas τ (fs uf) (7 + 3)) _ 4 τ = _ from ei, bd_t, hv, ht]
        cases hi : idx (A 6) (Z 6) 4 (bas τ (fs uf) 10) (τ.2.2 21 (11 * e + 3)) with
        | some p =>
          rw [hi] at d3
          have hp : p + 4 ≤ 3000 := by
            unfold idx at hi
            split at hi
            · cases hi
            · obtain ⟨m, _, _, q, rfl⟩ := plc_some hi
              have := (EV_xm h 6 (by decide)).2.2
              omega
          rw [oN_s, if_neg (nI_ne (by omega)), show g_Mo_peek (nI p) 4 τ = _ from pe_ok (m := 4) (by omega) (by decide), bd_t]
          have d4 : bas τ (fs uf) 10 + lN (num (τ.2.1 2) p 4) = σ.2.2 16 (7 * e + 3) := Option.some.inj d3
          rw [show bas τ (fs uf) (7 + 3) = bas τ (fs uf) 10 from rfl, d4]
          exact fin
        | none =>
          rw [hi] at d3
          cases d3
      · rw [if_neg c35] at d3
        cases d3
