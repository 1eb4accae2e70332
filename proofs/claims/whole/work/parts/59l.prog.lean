/-! rows, both sides -/
def RW (σ τ : am_S) (w : Nat) : Prop := w ≤ 400 ∧ σ.1.1 40 8 = nI w ∧ τ.1.1 0 38 = nI w ∧ ∀ i, i < w → σ.2.2 41 i = τ.2.2 30 i ∧ σ.2.2 42 i = τ.2.2 31 i ∧ σ.2.1 43 i = τ.2.1 27 i ∧ σ.2.1 44 i = τ.2.1 32 i
def LR (σ τ : am_S) : Prop := σ.1.2 49 12 = τ.1.2 0 47 ∧ σ.1.2 49 13 = τ.1.2 0 48 ∧ σ.1.1 49 14 = τ.1.1 0 49
def LH (σ τ : am_S) (lr fc op : Nat) : Prop := σ.1.1 49 8 = τ.1.1 0 52 ∧ σ.1.1 49 9 = nI lr ∧ τ.1.1 0 53 = nI lr ∧ 0 < lr ∧ lr < 256 ∧ σ.1.1 49 10 = nI fc ∧ τ.1.1 0 50 = nI fc ∧ 10 ≤ fc ∧ fc ≤ 200 ∧ σ.1.1 49 11 = nI op ∧ τ.1.1 0 51 = nI op ∧ op + fc ≤ 3001
def PS (σ τ : am_S) (p q w lr fc op : Nat) : Prop := RG 51 σ τ p q ∧ RW σ τ w ∧ LR σ τ ∧ LH σ τ lr fc op
theorem RW_fr {W W' : List (Nat × Nat)} {A A' : List Nat} {σ τ s t : am_S} {w : Nat} (h : RW σ τ w) (f : FR W A σ s) (g : FR W' A' τ t) (n : (W.contains (40, 8) || A.contains 41 || A.contains 42 || A.contains 43 || A.contains 44 || W'.contains (0, 38) || A'.contains 30 || A'.contains 31 || A'.contains 27 || A'.contains 32) = false) : RW s t w := by
  simp only [Bool.or_eq_false_iff] at n
  obtain ⟨⟨⟨⟨⟨⟨⟨⟨⟨n1, n2⟩, n3⟩, n4⟩, n5⟩, n6⟩, n7⟩, n8⟩, n9⟩, n10⟩ := n
  unfold RW
  rw [fr_i f n1, fr_i g n6, fr_c f n2, fr_c f n3, fr_b f n4, fr_b f n5, fr_c g n7, fr_c g n8, fr_b g n9, fr_b g n10]
  exact h
theorem LR_fr {W W' : List (Nat × Nat)} {A A' : List Nat} {σ τ s t : am_S} (h : LR σ τ) (f : FR W A σ s) (g : FR W' A' τ t) (n : (W.contains (49, 12) || W.contains (49, 13) || W.contains (49, 14) || W'.contains (0, 47) || W'.contains (0, 48) || W'.contains (0, 49)) = false) : LR s t := by
  simp only [Bool.or_eq_false_iff] at n
  obtain ⟨⟨⟨⟨⟨n1, n2⟩, n3⟩, n4⟩, n5⟩, n6⟩ := n
  unfold LR
  rw [fr_j f n1, fr_j f n2, fr_i f n3, fr_j g n4, fr_j g n5, fr_i g n6]
  exact h
theorem LH_fr {W W' : List (Nat × Nat)} {A A' : List Nat} {σ τ s t : am_S} {lr fc op : Nat} (h : LH σ τ lr fc op) (f : FR W A σ s) (g : FR W' A' τ t) (n : (W.contains (49, 8) || W.contains (49, 9) || W.contains (49, 10) || W.contains (49, 11) || W'.contains (0, 50) || W'.contains (0, 51) || W'.contains (0, 52) || W'.contains (0, 53)) = false) : LH s t lr fc op := by
  simp only [Bool.or_eq_false_iff] at n
  obtain ⟨⟨⟨⟨⟨⟨⟨n1, n2⟩, n3⟩, n4⟩, n5⟩, n6⟩, n7⟩, n8⟩ := n
  unfold LH
  rw [fr_i f n1, fr_i f n2, fr_i f n3, fr_i f n4, fr_i g n5, fr_i g n6, fr_i g n7, fr_i g n8]
  exact h
theorem PS_cu {σ τ s t : am_S} {p p' q w lr fc op : Nat} (h : PS σ τ p q w lr fc op) (f : FR [(51, 1), (51, 3)] [] σ s) (g : FR [(0, 6), (0, 8)] [] τ t) (G : RG 51 s t p' q) : PS s t p' q w lr fc op := ⟨G, RW_fr h.2.1 f g (by decide), LR_fr h.2.2.1 f g (by decide), LH_fr h.2.2.2 f g (by decide)⟩
theorem row_2 {σ τ : am_S} {w : Nat} {x : Int32} (h : RW σ τ w) (hL : LR σ τ) : R2 (g_Li_addRow x σ) (g_Mo_row x τ) (fun _ s y t => FR [(40, 8), (51, 3)] [41, 42, 43, 44] σ s ∧ FR [(0, 38)] [27, 30, 31, 32] τ t ∧ ((y = 1 ∧ RW s t (w + 1) ∧ s.1.1 51 3 = σ.1.1 51 3) ∨ (y = 0 ∧ ¬ s.1.1 51 3 = 0))) := by
  obtain ⟨h1, h2, h3, h4⟩ := h
  obtain ⟨l1, l2, l3⟩ := hL
  unfold g_Li_addRow g_Li_addRow_31 g_Ro_add g_Mo_row
  rw [h2, h3, l1, l2, l3]
  by_cases c : w = 400
  · rw [if_pos (show nI w = 400 from c ▸ rfl), if_pos (show nI w = 400 from c ▸ rfl), bd_t, if_pos rfl]
    exact R2_p ⟨fr_fi fr_rf (by simp), fr_rf, Or.inr ⟨rfl, by rw [fi_at]; decide⟩⟩
  · have ne : ¬ nI w = 400 := fun z => c ((nI_eq (b := 400) (by omega) (by omega)).mp z)
    rw [if_neg ne, if_neg ne, inb_nI (by omega) (by decide), nI_clamp (by omega), show nI w + 1 = nI (w + 1) from nI_add w 1]
    simp only [gd_t]
    rw [bd_t, if_neg i10]
    refine R2_p ⟨fr_fi (fr_ai (fr_ai (fr_al (fr_al fr_rf (by simp)) (by simp)) (by simp)) (by simp)) (by simp), fr_fi (fr_ai (fr_ai (fr_al (fr_al fr_rf (by simp)) (by simp)) (by simp)) (by simp)) (by simp), Or.inl ⟨rfl, ⟨by omega, fi_at, fi_at, fun i hi => ?_⟩, ?_⟩⟩
    · rw [fi_a, fi_a, ai_l, ai_l, ai_l, ai_l]
      by_cases ci : i = w
      · subst ci
        rw [al_no (Or.inl (by decide)), al_at, al_at, al_no (Or.inl (by decide)), al_at, al_at, ai_no (Or.inl (by decide)), ai_at, ai_at, ai_no (Or.inl (by decide)), ai_at, ai_at]
        exact ⟨rfl, rfl, rfl, rfl⟩
      · rw [al_no (Or.inr ci), al_no (Or.inr ci), al_no (Or.inr ci), al_no (Or.inr ci), al_no (Or.inr ci), al_no (Or.inr ci), al_no (Or.inr ci), al_no (Or.inr ci), ai_no (Or.inr ci), ai_no (Or.inr ci), ai_no (Or.inr ci), ai_no (Or.inr ci), ai_no (Or.inr ci), ai_no (Or.inr ci), ai_no (Or.inr ci), ai_no (Or.inr ci)]
        exact h4 i (by omega)
    · rw [fi_no (Or.inl (by decide))]
      rfl
/-- what a step of the program leaves -/
def SP (p q w0 lr fc op : Nat) (s : am_S) (y : Int32) (t : am_S) : Prop := (y = 1 ∧ ∃ p' w, p ≤ p' ∧ w0 ≤ w ∧ PS s t p' q w lr fc op) ∨ (y = 0 ∧ ¬ s.1.1 51 3 = 0)
theorem SP_z {p q w0 lr fc op : Nat} {s t : am_S} {y : Int32} (h : SP p q w0 lr fc op s y t) : z01 y = true := by
  rcases h with ⟨rfl, _⟩ | ⟨rfl, _⟩ <;> decide
/-- a row, with what else holds -/
theorem row_p {σ τ : am_S} {p q w lr fc op : Nat} {x : Int32} (h : PS σ τ p q w lr fc op) : R2 (g_Li_addRow x σ) (g_Mo_row x τ) (fun _ s y t => FR [(40, 8), (51, 3)] [41, 42, 43, 44] σ s ∧ FR [(0, 38)] [27, 30, 31, 32] τ t ∧ ((y = 1 ∧ PS s t p q (w + 1) lr fc op) ∨ (y = 0 ∧ ¬ s.1.1 51 3 = 0))) := by
  refine R2_m (row_2 h.2.1 h.2.2.1) (fun _ s y t _ _ k => ⟨k.1, k.2.1, ?_⟩)
  obtain ⟨f, g, k⟩ := k
  rcases k with ⟨rfl, k, k3⟩ | k
  · refine Or.inl ⟨rfl, ⟨⟨(fr_i f (by decide)).trans h.1.1.1, (fr_i f (by decide)).trans h.1.1.2.1, k3.trans h.1.1.2.2.1, h.1.1.2.2.2⟩, RU_fr h.1.2.1 g (by decide) (by decide) (by decide), (fr_b f (by decide)).trans (h.1.2.2.trans (fr_b g (by decide)).symm)⟩, k, LR_fr h.2.2.1 f g (by decide), LH_fr h.2.2.2 f g (by decide)⟩
  · exact Or.inr k
theorem PS_r {σ τ s t : am_S} {p q w lr fc op : Nat} (h : PS σ τ p q w lr fc op) (f : FR [(49, 12), (49, 13), (49, 14)] [] σ s) (g : FR [(0, 47), (0, 48), (0, 49)] [] τ t) (hL : LR s t) : PS s t p q w lr fc op := ⟨RG_fr h.1 f g (by decide), RW_fr h.2.1 f g (by decide), hL, LH_fr h.2.2.2 f g (by decide)⟩
theorem spe_l {σ τ : am_S} {p q w lr fc op c : Nat} (h : PS σ τ p q w lr fc op) (hc : fc ≤ c) (hc8 : c < 256) : R2 (g_Li_special (nI c - σ.1.1 49 10) σ) (g_Mo_code (nI c) τ) (fun _ s y t => SP p q w lr fc op s y t) := by
  obtain ⟨h1, h2, h3, h4, h5, h6, h7, h8, h9, h10, h11, h12⟩ := h.2.2.2
  have hnz : ¬ nI lr = 0 := nI_ne0 h4 (by omega)
  unfold g_Li_special g_Mo_code
  rw [h7, if_neg (nI_nlt (by omega) (by omega)), h6, h2, h3, decide_eq_true hnz, gd_t, gd_t, gd_t, gd_t, pk_sub hc, h.2.2.1.1, h.2.2.1.2.2, h1]
  generalize nI (c - fc) = k
  have fC : FR [(49, 12), (49, 13), (49, 14)] [] σ (am_fi (am_fl σ 49 12 (τ.1.2 0 47 + (k / nI lr).toInt64)) 49 14 (τ.1.1 0 49 + (τ.1.1 0 52 + (k - k / nI lr * nI lr)))) := fr_fi (fr_fl fr_rf (by simp)) (by simp)
  have fM : FR [(0, 47), (0, 48), (0, 49)] [] τ (am_fi (am_fl τ 0 47 (τ.1.2 0 47 + (k / nI lr).toInt64)) 0 49 (τ.1.1 0 49 + (τ.1.1 0 52 + (k - k / nI lr * nI lr)))) := fr_fi (fr_fl fr_rf (by simp)) (by simp)
  have h' := PS_r h fC fM ⟨by rw [fi_l, fi_l, fl_at, fl_at], by rw [fi_l, fi_l, fl_no (Or.inl (by decide)), fl_no (Or.inl (by decide))]; exact h.2.2.1.2.1, by rw [fi_at, fi_at]⟩
  refine R2_b (row_p h') (fun _ s y t _ _ kk => ?_)
  obtain ⟨_, _, kk⟩ := kk
  rcases kk with ⟨rfl, kk⟩ | ⟨rfl, kk⟩
  · exact R2_p (Or.inl ⟨rfl, p, w + 1, Nat.le_refl _, by omega, kk⟩)
  · exact R2_p (Or.inr ⟨rfl, kk⟩)
theorem in_1 {x : Int64} {d : Nat} (hd : d ≤ 3000) (h : ¬ x < 1 ∧ ¬ lN d < x) : ∃ n, 1 ≤ n ∧ n ≤ d ∧ x = lN n := by
  have h1 : (1 : Int64).toInt = 1 := by decide
  have h0 : (0 : Int64).toInt = 0 := by decide
  obtain ⟨n, hn, rfl⟩ := in_pos (x := x) (d := d) hd (fun z => by
    rcases z with z | z
    · have := h.1
      rw [Int64.lt_iff_toInt_lt] at z this
      omega
    · exact h.2 z)
  refine ⟨n, ?_, hn, rfl⟩
  have := h.1
  rw [Int64.lt_iff_toInt_lt, lN_toInt (by omega)] at this
  omega
theorem ext_l {σ τ : am_S} {p q w lr fc op : Nat} (h : PS σ τ p q w lr fc op) : R2 (g_Li_extended σ) (g_Mo_longCode τ) (fun _ s y t => SP p q w lr fc op s y t) := by
  have hq := RG_q h.1
  unfold g_Li_extended g_Mo_longCode g_Li_extended_39 g_Li_extended_74 g_Li_extended_120 g_Mo_longCode_31 g_Mo_longCode_91 g_Mo_longCode_109 g_Mo_longCode_112
  have no : ∀ (s t : am_S), R2 (some ((), am_fi s 51 3 1)) (some ((0 : Int32), t)) (fun _ s y t => SP p q w lr fc op s y t) := fun s t => R2_p (Or.inr ⟨rfl, by rw [fi_at]; decide⟩)
  obtain ⟨v1, s1, w1, t1, e1, e1', f1, g1, k1⟩ := xul h.1
  rw [e1, e1', bd_t, bd_t]
  rcases k1 with ⟨p1, hp1, hp1q, G1, rfl⟩ | ⟨b1, rfl⟩
  · have h1 := PS_cu h f1 g1 G1
    rw [if_pos (RG_8 G1), G1.1.1, G1.2.1.1, G1.2.1.2.1, pk_sub hp1q, nI_l (by omega)]
    obtain ⟨yi, ti, ei, rfl, ki⟩ := mi_1 (σ := t1) (x := v1) (a := 1) (b := lN (q - p1))
    rw [ei, bd_t]
    rcases ki with ⟨rfl, ki⟩ | ⟨rfl, ki⟩
    · obtain ⟨n, hn1, hn, rfl⟩ := in_1 (d := q - p1) (by omega) ki
      rw [if_neg i10]
      obtain ⟨v2, s2, w2, t2, e2, e2', f2, g2, k2⟩ := xu (m := 1) G1 (by omega) (by omega)
      rcases k2 with ⟨hq2, G2, rfl, rfl⟩ | ⟨b2, _, _⟩
      · have h2 := PS_cu h1 f2 g2 G2
        rw [show g_Cu_number 51 1 s1 = _ from e2, show g_Mo_u 1 ti = _ from e2', bd_t, bd_t, lN_i, lN_i, nI_add, show ti.1.1 0 6 + nI n = nI (p1 + n) from by rw [G1.2.1.1, nI_add]]
        have e2q : (s2.1.1 51 2 - nI p1).toInt64 = lN (q - p1) := by rw [G2.1.2.1, pk_sub (show p1 ≤ q by omega), nI_l (by omega)]
        have hc := num_lt (s1.2.1 1) 1 p1
        generalize num (s1.2.1 1) p1 1 = c at *
        have ne : ∀ d, d < 256 → ¬ c = d → ¬ nI c = nI d := fun d hd hn z => hn ((nI_eq (by omega) (by omega)).mp z)
        have nb : ¬ lg_cmp (lN n) (Int32.toInt64 1) < 0 := fun z => by
          have := (lN_lt (a := n) (b := 1) (by omega) (by omega)).mp ((cmp_lt _ _).mp z)
          omega
        have nd : ¬ 0 < lg_cmp (lN n) (lN (q - p1)) := fun z => by
          have := (lN_lt (b := n) (by omega) (by omega)).mp ((cmp_gt _ _).mp z)
          omega
        -- going behind it
        have fin : ∀ (s t : am_S) (w' p2 : Nat), w ≤ w' → PS s t p2 q w' lr fc op → R2 (some ((), am_fi s 51 1 (nI (p1 + n)))) (some ((1 : Int32), am_fi t 0 6 (nI (p1 + n)))) (fun _ s y t => SP p q w lr fc op s y t) := fun s t w' p2 hww hs => by
          refine R2_p (Or.inl ⟨rfl, p1 + n, w', by omega, hww, ⟨CU_1' hs.1.1 (by omega), RU_1' hs.1.2.1 (by omega), hs.1.2.2⟩, RW_fr hs.2.1 (fr_fi (W := [(51, 1)]) (A := []) fr_rf (by simp)) (fr_fi (W := [(0, 6)]) (A := []) fr_rf (by simp)) (by decide), LR_fr hs.2.2.1 (fr_fi (W := [(51, 1)]) (A := []) fr_rf (by simp)) (fr_fi (W := [(0, 6)]) (A := []) fr_rf (by simp)) (by decide), LH_fr hs.2.2.2 (fr_fi (W := [(51, 1)]) (A := []) fr_rf (by simp)) (fr_fi (W := [(0, 6)]) (A := []) fr_rf (by simp)) (by decide)⟩)
        by_cases c1 : c = 1
        · rw [if_neg (show ¬ nI c = 2 from ne 2 (by omega) (by omega)), if_pos (RG_3 G2), e2q, if_neg nb, if_neg nd, if_pos (show nI c = 1 from c1 ▸ rfl), if_pos (show nI c = 1 from c1 ▸ rfl)]
          obtain ⟨_, s3, y3, t3, e3, e3', f3, g3, k3⟩ := row_p (x := 1) h2
          rw [e3, e3', bd_t, bd_t]
          unfold g_Li_restart g_Mo_begin
          rw [bd_t, bd_t]
          rcases k3 with ⟨rfl, k3⟩ | ⟨rfl, k3⟩
          · rw [show z01 1 = true from by decide, gd_t]
            have fC : FR [(49, 12), (49, 13), (49, 14)] [] s3 (am_fi (am_fl (am_fl s3 49 12 0) 49 13 1) 49 14 1) := fr_fi (fr_fl (fr_fl fr_rf (by simp)) (by simp)) (by simp)
            have fM : FR [(0, 47), (0, 48), (0, 49)] [] t3 (am_fi (am_fl (am_fl t3 0 47 0) 0 48 1) 0 49 1) := fr_fi (fr_fl (fr_fl fr_rf (by simp)) (by simp)) (by simp)
            exact fin _ _ (w + 1) _ (by omega) (PS_r k3 fC fM ⟨by rw [fi_l, fi_l, fl_no (Or.inl (by decide)), fl_at, fl_no (Or.inl (by decide)), fl_at], by rw [fi_l, fi_l, fl_at, fl_at], by rw [fi_at, fi_at]⟩)
          · rw [show z01 0 = true from by decide, gd_t]
            refine R2_p (Or.inr ⟨rfl, ?_⟩)
            rw [fi_no (Or.inl (by decide)), fi_no (Or.inl (by decide)), fl_i, fl_i]
            exact k3
        · rw [if_neg (show ¬ nI c = 1 from ne 1 (by omega) c1)]
          by_cases c2 : c = 2
          · rw [if_pos (show nI c = 2 from c2 ▸ rfl), if_pos (RG_3 G2), e2q, if_neg (show ¬ nI c = 1 from ne 1 (by omega) c1), if_pos (show nI c = 2 from c2 ▸ rfl), if_pos (show nI c = 2 from c2 ▸ rfl)]
            by_cases c9 : n < 9
            · rw [if_pos (show lg_cmp (lN n) (Int32.toInt64 9) < 0 from (cmp_lt _ _).mpr ((lN_lt (b := 9) (by omega) (by omega)).mpr c9)), if_pos (show lg_cmp (lN n) 9 < 0 from (cmp_lt _ _).mpr ((lN_lt (b := 9) (by omega) (by omega)).mpr c9)), if_pos rfl, show z01 0 = true from by decide, gd_t]
              exact no _ _
            · rw [if_neg (show ¬ lg_cmp (lN n) (Int32.toInt64 9) < 0 from fun z => c9 ((lN_lt (b := 9) (by omega) (by omega)).mp ((cmp_lt _ _).mp z))), if_neg (show ¬ lg_cmp (lN n) 9 < 0 from fun z => c9 ((lN_lt (b := 9) (by omega) (by omega)).mp ((cmp_lt _ _).mp z))), if_neg nd, if_neg i10]
              obtain ⟨v3, s3, w3, t3, e3, e3', f3, g3, k3⟩ := xu (m := 8) G2 (by omega) (by omega)
              rcases k3 with ⟨hq3, G3, e4, e5⟩ | ⟨b3, _, _⟩
              · rw [show g_Cu_number 51 8 s2 = _ from e3, show g_Mo_u 8 t2 = _ from e3', bd_t, bd_t, show z01 1 = true from by decide, gd_t, e5, ← e4]
                have h3 := PS_cu h2 f3 g3 G3
                have fC : FR [(49, 12), (49, 13), (49, 14)] [] s3 (am_fl s3 49 12 v3) := fr_fl fr_rf (by simp)
                have fM : FR [(0, 47), (0, 48), (0, 49)] [] t3 (am_fl t3 0 47 v3) := fr_fl fr_rf (by simp)
                exact fin _ _ w _ (Nat.le_refl _) (PS_r h3 fC fM ⟨by rw [fl_at, fl_at], by rw [fl_no (Or.inl (by decide)), fl_no (Or.inl (by decide))]; exact h3.2.2.1.2.1, h3.2.2.1.2.2⟩)
              · exfalso
                have e6 := gn_ok (m := 8) G2.1 (by omega) (by omega)
                rw [show g_Cu_number 51 (nI 8) s2 = _ from e3] at e6
                cases e6
                exact b3.1 (by rw [fi_no (Or.inl (by decide))]; exact RG_3 G2)
          · rw [if_neg (show ¬ nI c = 2 from ne 2 (by omega) c2), if_pos (RG_3 G2), e2q, if_neg nb, if_neg nd, if_neg (show ¬ nI c = 1 from ne 1 (by omega) c1), if_neg (show ¬ nI c = 2 from ne 2 (by omega) c2), if_neg (show ¬ nI c = 2 from ne 2 (by omega) c2), show z01 1 = true from by decide, gd_t]
            exact fin s2 t2 w _ (Nat.le_refl _) h2
      · exfalso
        have e6 := gn_ok (m := 1) G1.1 (by omega) (by omega)
        rw [show g_Cu_number 51 (nI 1) s1 = _ from e2] at e6
        cases e6
        exact b2.1 (by rw [fi_no (Or.inl (by decide))]; exact RG_3 G1)
    · rw [if_pos rfl]
      obtain ⟨v2, s2, w2, t2, e2, e2', f2, g2, k2⟩ := xu (m := 1) G1 (by omega) (by omega)
      rw [show g_Cu_number 51 1 s1 = _ from e2, bd_t]
      rcases k2 with ⟨hq2, G2, rfl, rfl⟩ | ⟨b2, _, _⟩
      · have e2q : (s2.1.1 51 2 - nI p1).toInt64 = lN (q - p1) := by rw [G2.1.2.1, pk_sub (show p1 ≤ q by omega), nI_l (by omega)]
        have key : ∀ y0 : Int32, (y0 = 9 ∨ y0 = 1) → R2 (if lg_cmp v1 y0.toInt64 < 0 then some ((), am_fi s2 51 3 1) else if 0 < lg_cmp v1 (lN (q - p1)) then some ((), am_fi s2 51 3 1) else if (lN (num (s1.2.1 1) p1 1)).toInt32 = 1 then am_bd (g_Li_addRow 1 s2) fun _ σ25 => am_bd (g_Li_restart σ25) fun _ σ27 => some ((), am_fi σ27 51 1 (nI p1 + v1.toInt32)) else if (lN (num (s1.2.1 1) p1 1)).toInt32 = 2 then am_bd (g_Cu_number 51 8 s2) fun v30 σ30 => some ((), am_fi (am_fl σ30 49 12 v30) 51 1 (nI p1 + v1.toInt32)) else some ((), am_fi s2 51 1 (nI p1 + v1.toInt32))) (some ((0 : Int32), ti)) (fun _ s y t => SP p q w lr fc op s y t) := by
          intro y0 hy0
          rcases ki with ki | ki
          · have : lg_cmp v1 y0.toInt64 < 0 := by
              rw [cmp_lt]
              have h1 : (1 : Int64).toInt = 1 := by decide
              have h9 : (Int32.toInt64 9).toInt = 9 := by decide
              have h1' : (Int32.toInt64 1).toInt = 1 := by decide
              rw [Int64.lt_iff_toInt_lt] at ki ⊢
              rcases hy0 with rfl | rfl <;> omega
            rw [if_pos this]
            exact no _ _
          · rw [if_pos ((cmp_gt _ _).mpr ki)]
            simp only [ite_self]
            exact no _ _
        by_cases cw : (lN (num (s1.2.1 1) p1 1)).toInt32 = 2
        · rw [if_pos cw, if_pos (RG_3 G2), e2q]
          exact key 9 (Or.inl rfl)
        · rw [if_neg cw, if_pos (RG_3 G2), e2q]
          exact key 1 (Or.inr rfl)
      · by_cases cw : v2.toInt32 = 2
        · rw [if_pos cw, if_neg b2.1]
          exact no _ _
        · rw [if_neg cw, if_neg b2.1]
          exact no _ _
  · rw [if_neg b1.2, bn b1.1, bd_t, if_neg (show ¬ (0 : Int64).toInt32 = 2 by decide), if_neg (show ¬ (am_fi s1 51 3 1).1.1 51 3 = 0 by rw [fi_at]; decide)]
    exact no _ _

/-! the other codes -/
theorem pas_l {p0 q w lr fc op m : Nat} (hm : m < 256) : ∀ j i, i + j = m → ∀ (σ τ : am_S) (p : Nat), p0 ≤ p → PS σ τ p q w lr fc op → ∀ n n', j < n → j < n' → R2 (g_Li_passOperands_20 n (nI m) (nI i) σ) (g_Mo_code_301 n' (nI m) (nI i) τ) (fun _ s y t => SP p0 q w lr fc op s y t) := by
  intro j
  induction j with
  | zero =>
    intro i hi σ τ p hp h n n' hn hn'
    obtain ⟨n, rfl⟩ : ∃ z, n = z + 1 := ⟨n - 1, by omega⟩
    obtain ⟨n', rfl⟩ : ∃ z, n' = z + 1 := ⟨n' - 1, by omega⟩
    unfold g_Li_passOperands_20 g_Li_passOperands_49 g_Mo_code_301 g_Mo_code_331
    rw [if_neg (nI_nlt (by omega) (by omega)), if_neg (nI_nlt (by omega) (by omega)), if_pos (RG_8 h.1)]
    exact R2_p (Or.inl ⟨rfl, p, w, hp, Nat.le_refl _, h⟩)
  | succ j ih =>
    intro i hi σ τ p hp h n n' hn hn'
    obtain ⟨n, rfl⟩ : ∃ z, n = z + 1 := ⟨n - 1, by omega⟩
    obtain ⟨n', rfl⟩ : ∃ z, n' = z + 1 := ⟨n' - 1, by omega⟩
    rw [g_Li_passOperands_20, g_Mo_code_301, if_pos (nI_lt (by omega) (by omega)), if_pos (nI_lt (by omega) (by omega)), if_pos (RG_3 h.1), show nI i + 1 = nI (i + 1) from nI_add i 1]
    refine R2_b (xul h.1) (fun v s w' t _ _ k => ?_)
    obtain ⟨f, g, k⟩ := k
    rcases k with ⟨p1, h1, h2, G, _⟩ | ⟨b, _⟩
    · exact ih (i + 1) (by omega) s t p1 (by omega) (PS_cu h f g G) n n' (by omega) (by omega)
    · -- bad: the reference goes on passing
      have hM : ∀ j i, i + j = m → ∀ n, j < n → g_Mo_code_301 n (nI m) (nI i) t = some (0, t) := by
        intro j
        induction j with
        | zero =>
          intro i hi n hn
          obtain ⟨n, rfl⟩ : ∃ z, n = z + 1 := ⟨n - 1, by omega⟩
          unfold g_Mo_code_301 g_Mo_code_331
          rw [if_neg (nI_nlt (by omega) (by omega)), if_neg b.2]
          rfl
        | succ j ih2 =>
          intro i hi n hn
          obtain ⟨n, rfl⟩ : ∃ z, n = z + 1 := ⟨n - 1, by omega⟩
          obtain ⟨w2, e2⟩ := bml (x := 0) b.2
          rw [g_Mo_code_301, if_pos (nI_lt (by omega) (by omega)), e2, bd_t, show nI i + 1 = nI (i + 1) from nI_add i 1]
          exact ih2 (i + 1) (by omega) n (by omega)
      rw [hM j (i + 1) (by omega) n' (by omega)]
      obtain ⟨n, rfl⟩ : ∃ z, n = z + 1 := ⟨n - 1, by omega⟩
      unfold g_Li_passOperands_20 g_Li_passOperands_49
      rw [if_neg b.1]
      simp only [ite_self]
      exact R2_p (Or.inr ⟨rfl, b.1⟩)
theorem sta_l {σ τ : am_S} {p q w lr fc op c : Nat} (h : PS σ τ p q w lr fc op) (h1 : 1 ≤ c) (hc : c < fc) : R2 (g_Li_standard (nI c) σ) (g_Mo_code (nI c) τ) (fun _ s y t => SP p q w lr fc op s y t) := by
  obtain ⟨a1, a2, a3, a4, a5, a6, a7, a8, a9, a10, a11, a12⟩ := h.2.2.2
  obtain ⟨l1, l2, l3⟩ := h.2.2.1
  have hq := RG_q h.1
  have ne : ∀ d, d < 256 → ¬ c = d → ¬ nI c = nI d := fun d hd hn z => hn ((nI_eq (by omega) (by omega)).mp z)
  unfold g_Li_standard g_Li_standard_125 g_Li_standard_136 g_Li_standard_190 g_Mo_code g_Mo_code_161 g_Mo_code_189 g_Mo_code_211 g_Mo_code_212 g_Mo_code_265 g_Mo_code_266 g_Mo_code_277 g_Mo_code_298
  rw [a7, if_pos (nI_lt hc (by omega)), if_neg (show ¬ nI c = 0 from ne 0 (by omega) (by omega))]
  -- a number read into a register
  have reg : ∀ (F : Int64 → am_S → am_S) (G : Int64 → am_S → am_S), (∀ v s, FR [(49, 12), (49, 13), (49, 14)] [] s (F v s)) → (∀ v t, FR [(0, 47), (0, 48), (0, 49)] [] t (G v t)) → (∀ v s t, LR s t → LR (F v s) (G v t)) → ∀ (X : Option (Int64 × am_S)) (M : Option (Int64 × am_S)), R2 X M (OUT 51 p q σ τ) → R2 (am_bd X fun v8 σ8 => some ((), F v8 σ8)) (am_bd M fun v12 σ12 => if (σ12.1.1 0 8) = 0 then am_gd (z01 1) (some ((1 : Int32), G v12 σ12)) else am_gd (z01 0) (some (0, G v12 σ12))) (fun _ s y t => SP p q w lr fc op s y t) := by
    intro F G hF hG hL X M hX
    refine R2_b hX (fun v s w' t _ _ k => ?_)
    obtain ⟨f, g, k⟩ := k
    rcases k with ⟨p1, q1, q2, G1, rfl⟩ | ⟨b, _⟩
    · rw [if_pos (RG_8 G1)]
      have hp := PS_cu h f g G1
      exact R2_p (Or.inl ⟨rfl, p1, w, by omega, Nat.le_refl _, PS_r hp (hF v s) (hG v t) (hL v s t hp.2.2.1)⟩)
    · rw [if_neg b.2]
      exact R2_p (Or.inr ⟨rfl, by rw [fr_i (hF v s) (by decide)]; exact b.1⟩)
  by_cases c1 : c = 1
  · rw [if_pos (show nI c = 1 from c1 ▸ rfl), if_pos (show nI c = 1 from c1 ▸ rfl)]
    refine R2_b (row_p h) (fun _ s y t _ _ k => ?_)
    obtain ⟨_, _, k⟩ := k
    rcases k with ⟨rfl, k⟩ | ⟨rfl, k⟩
    · exact R2_p (Or.inl ⟨rfl, p, w + 1, Nat.le_refl _, by omega, k⟩)
    · exact R2_p (Or.inr ⟨rfl, k⟩)
  · rw [if_neg (show ¬ nI c = 1 from ne 1 (by omega) c1), if_neg (show ¬ nI c = 1 from ne 1 (by omega) c1)]
    by_cases c2 : c = 2
    · rw [if_pos (show nI c = 2 from c2 ▸ rfl), if_pos (show nI c = 2 from c2 ▸ rfl), l1]
      exact reg (fun v s => am_fl s 49 12 (τ.1.2 0 47 + v)) (fun v t => am_fl t 0 47 (τ.1.2 0 47 + v)) (fun v s => fr_fl fr_rf (by simp)) (fun v s => fr_fl fr_rf (by simp)) (fun v s t hl => ⟨by rw [fl_at, fl_at], by rw [fl_no (Or.inl (by decide)), fl_no (Or.inl (by decide))]; exact hl.2.1, hl.2.2⟩) _ _ (xul h.1)
    · rw [if_neg (show ¬ nI c = 2 from ne 2 (by omega) c2), if_neg (show ¬ nI c = 2 from ne 2 (by omega) c2)]
      by_cases c3 : c = 3
      · rw [if_pos (show nI c = 3 from c3 ▸ rfl), if_pos (show nI c = 3 from c3 ▸ rfl), l3]
        exact reg (fun v s => am_fi s 49 14 (τ.1.1 0 49 + v.toInt32)) (fun v t => am_fi t 0 49 (τ.1.1 0 49 + v.toInt32)) (fun v s => fr_fi fr_rf (by simp)) (fun v s => fr_fi fr_rf (by simp)) (fun v s t hl => ⟨hl.1, hl.2.1, by rw [fi_at, fi_at]⟩) _ _ (xsl h.1)
      · rw [if_neg (show ¬ nI c = 3 from ne 3 (by omega) c3), if_neg (show ¬ nI c = 3 from ne 3 (by omega) c3)]
        by_cases c4 : c = 4
        · rw [if_pos (show nI c = 4 from c4 ▸ rfl), if_pos (show nI c = 4 from c4 ▸ rfl)]
          exact reg (fun v s => am_fl s 49 13 v) (fun v t => am_fl t 0 48 v) (fun v s => fr_fl fr_rf (by simp)) (fun v s => fr_fl fr_rf (by simp)) (fun v s t hl => ⟨by rw [fl_no (Or.inl (by decide)), fl_no (Or.inl (by decide))]; exact hl.1, by rw [fl_at, fl_at], hl.2.2⟩) _ _ (xul h.1)
        · rw [if_neg (show ¬ nI c = 4 from ne 4 (by omega) c4), if_neg (show ¬ nI c = 4 from ne 4 (by omega) c4)]
          -- one number is passed
          have one : R2 (am_bd (g_Cu_uleb 51 σ) fun _ σ3 => some ((), σ3)) (g_Mo_code_301 4000 1 0 τ) (fun _ s y t => SP p q w lr fc op s y t) := by
            rw [g_Mo_code_301, if_pos (by decide)]
            refine R2_b (xul h.1) (fun v s w' t _ _ k => ?_)
            obtain ⟨f, g, k⟩ := k
            unfold g_Mo_code_301 g_Mo_code_331
            rw [if_neg (by decide)]
            rcases k with ⟨p1, q1, q2, G1, _⟩ | ⟨b, _⟩
            · rw [if_pos (RG_8 G1)]
              exact R2_p (Or.inl ⟨rfl, p1, w, by omega, Nat.le_refl _, PS_cu h f g G1⟩)
            · rw [if_neg b.2]
              exact R2_p (Or.inr ⟨rfl, b.1⟩)
          have nop : R2 (some ((), σ)) (some ((1 : Int32), τ)) (fun _ s y t => SP p q w lr fc op s y t) := R2_p (Or.inl ⟨rfl, p, w, Nat.le_refl _, Nat.le_refl _, h⟩)
          by_cases c5 : c = 5
          · rw [if_pos (show nI c = 5 from c5 ▸ rfl), if_neg (show ¬ nI c = 6 from ne 6 (by omega) (by omega)), if_neg (show ¬ nI c = 7 from ne 7 (by omega) (by omega)), if_neg (show ¬ nI c = 8 from ne 8 (by omega) (by omega)), if_neg (show ¬ nI c = 9 from ne 9 (by omega) (by omega)), if_neg (show ¬ nI c = 10 from ne 10 (by omega) (by omega)), if_neg (show ¬ nI c = 11 from ne 11 (by omega) (by omega)), if_pos (show nI c = 5 from c5 ▸ rfl)]
            exact one
          · rw [if_neg (show ¬ nI c = 5 from ne 5 (by omega) c5)]
            by_cases c6 : c = 6
            · rw [if_pos (show nI c = 6 from c6 ▸ rfl), if_pos (show nI c = 6 from c6 ▸ rfl)]
              exact nop
            · rw [if_neg (show ¬ nI c = 6 from ne 6 (by omega) c6), if_neg (show ¬ nI c = 6 from ne 6 (by omega) c6)]
              by_cases c7 : c = 7
              · rw [if_pos (show nI c = 7 from c7 ▸ rfl), if_pos (show nI c = 7 from c7 ▸ rfl)]
                exact nop
              · rw [if_neg (show ¬ nI c = 7 from ne 7 (by omega) c7), if_neg (show ¬ nI c = 7 from ne 7 (by omega) c7)]
                by_cases c8 : c = 8
                · have hnz : ¬ nI lr = 0 := nI_ne0 a4 (by omega)
                  rw [if_pos (show nI c = 8 from c8 ▸ rfl), if_pos (show nI c = 8 from c8 ▸ rfl), a2, a3, a6, l1, decide_eq_true hnz, gd_t, gd_t]
                  have fC : FR [(49, 12), (49, 13), (49, 14)] [] σ (am_fl σ 49 12 (τ.1.2 0 47 + ((255 - nI fc) / nI lr).toInt64)) := fr_fl fr_rf (by simp)
                  have fM : FR [(0, 47), (0, 48), (0, 49)] [] τ (am_fl τ 0 47 (τ.1.2 0 47 + ((255 - nI fc) / nI lr).toInt64)) := fr_fl fr_rf (by simp)
                  exact R2_p (Or.inl ⟨rfl, p, w, Nat.le_refl _, Nat.le_refl _, PS_r h fC fM ⟨by rw [fl_at, fl_at], by rw [fl_no (Or.inl (by decide)), fl_no (Or.inl (by decide))]; exact l2, l3⟩⟩)
                · rw [if_neg (show ¬ nI c = 8 from ne 8 (by omega) c8), if_neg (show ¬ nI c = 8 from ne 8 (by omega) c8)]
                  by_cases c9 : c = 9
                  · rw [if_pos (show nI c = 9 from c9 ▸ rfl), if_pos (show nI c = 9 from c9 ▸ rfl), l1]
                    refine reg (fun v s => am_fl s 49 12 (τ.1.2 0 47 + v)) (fun v t => am_fl t 0 47 (τ.1.2 0 47 + v)) (fun v s => fr_fl fr_rf (by simp)) (fun v s => fr_fl fr_rf (by simp)) (fun v s t hl => ⟨by rw [fl_at, fl_at], by rw [fl_no (Or.inl (by decide)), fl_no (Or.inl (by decide))]; exact hl.2.1, hl.2.2⟩) (g_Cu_number 51 2 σ) (g_Mo_u 2 τ) ?_
                    refine R2_m (xu (m := 2) h.1 (by omega) (by omega)) (fun v s w' t _ _ k => ⟨k.1, k.2.1, ?_⟩)
                    rcases k.2.2 with ⟨k1, k2, k3, k4⟩ | ⟨k1, k2, _⟩
                    · exact Or.inl ⟨p + 2, by omega, k1, k2, k3.trans k4.symm⟩
                    · exact Or.inr ⟨k1, k2⟩
                  · rw [if_neg (show ¬ nI c = 9 from ne 9 (by omega) c9), if_neg (show ¬ nI c = 9 from ne 9 (by omega) c9)]
                    by_cases c10 : c = 10
                    · rw [if_pos (show nI c = 10 from c10 ▸ rfl), if_pos (show nI c = 10 from c10 ▸ rfl)]
                      exact nop
                    · rw [if_neg (show ¬ nI c = 10 from ne 10 (by omega) c10), if_neg (show ¬ nI c = 10 from ne 10 (by omega) c10)]
                      by_cases c11 : c = 11
                      · rw [if_pos (show nI c = 11 from c11 ▸ rfl), if_pos (show nI c = 11 from c11 ▸ rfl)]
                        exact nop
                      · rw [if_neg (show ¬ nI c = 11 from ne 11 (by omega) c11), if_neg (show ¬ nI c = 11 from ne 11 (by omega) c11), if_neg (show ¬ nI c = 5 from ne 5 (by omega) c5)]
                        by_cases c12 : c = 12
                        · rw [if_pos (show nI c = 12 from c12 ▸ rfl), if_pos (show nI c = 12 from c12 ▸ rfl)]
                          exact one
                        · rw [if_neg (show ¬ nI c = 12 from ne 12 (by omega) c12), if_neg (show ¬ nI c = 12 from ne 12 (by omega) c12)]
                          unfold g_Li_passOperands
                          rw [a10, a11, nI_add, show nI (op + c) - 1 = nI (op + c - 1) from pk_sub (b := 1) (by omega), inb_nI (by omega) (by decide), gd_t, gd_t, nI_clamp (by omega), h.1.2.2, by8_and]
                          refine R2_m (P := fun _ s y t => SP p q w lr fc op s y t) ?_ (fun _ _ _ _ _ _ z => z)
                          have hx := pas_l (p0 := p) (by8_lt (τ.2.1 2) (op + c - 1)) (by8 (τ.2.1 2) (op + c - 1)) 0 (by omega) σ τ p (Nat.le_refl _) h 4000 4000 (by have := by8_lt (τ.2.1 2) (op + c - 1); omega) (by have := by8_lt (τ.2.1 2) (op + c - 1); omega)
                          obtain ⟨_, s, y, t, e1, e2, P⟩ := hx
                          rw [show g_Li_passOperands_20 4000 _ 0 σ = _ from e1, show g_Mo_code_301 4000 _ 0 τ = _ from e2, bd_t]
                          exact R2_p P
