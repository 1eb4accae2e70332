/-! a line table, both sides -/
theorem l344 {x7 : Int32} {τ : am_S} : R1 (g_Mo_readLines_344 x7 τ) (fun y _ => y = 0) := by
  unfold g_Mo_readLines_344 g_Mo_readLines_345 g_Mo_begin
  rw [bd_t, pg_0]
  exact R1_p rfl
theorem t173 {x : Int64} {s : am_S} : g_Li_readTable_173 x s = some (0, s) := by
  unfold g_Li_readTable_173 g_Li_readTable_174 g_Li_readTable_209
  rw [if_pos rfl]
/-- the files of a unit -/
def FU (σ τ : am_S) (u : Nat) : Prop := ∃ T, T ≤ 30 ∧ σ.2.1 47 u = nI T ∧ τ.2.1 25 u = nI T ∧ FX σ τ u T
theorem FU_up {σ τ s t : am_S} {u v : Nat} (h : FU σ τ v) (hv : v < u) (f : KEL [(47, u), (48, 30 * u)] σ s) (g : KEL [(25, u), (26, 30 * u)] τ t) (hb : s.2.1 1 = σ.2.1 1) : FU s t v := by
  obtain ⟨T, hT, h1, h2, h3⟩ := h
  refine ⟨T, hT, (KEL_i f u (by simp) hv).trans h1, (KEL_i g u (by simp) hv).trans h2, fun k hk => ?_⟩
  rw [KEL_i f (30 * u) (by simp) (by omega), KEL_i g (30 * u) (by simp) (by omega), hb]
  exact h3 k hk
def LW : List (Nat × Nat) := [(9, 1), (9, 2), (9, 3), (40, 8), (49, 6), (49, 7), (49, 8), (49, 9), (49, 10), (49, 11), (49, 12), (49, 13), (49, 14), (51, 1), (51, 2), (51, 3)]
def LA : List Nat := [41, 42, 43, 44, 47, 48, 50]
def MW : List (Nat × Nat) := [(0, 38), (0, 47), (0, 48), (0, 49), (0, 50), (0, 51), (0, 52), (0, 53), (0, 6), (0, 7), (0, 8)]
def MA : List Nat := [25, 26, 27, 29, 30, 31, 32]
def LTZ (u w0 : Nat) (x : Int32) (s : am_S) (y : Int32) (t : am_S) : Prop := (x = 0 ∧ y = 0) ∨ (x = 1 ∧ y = 1 ∧ (∃ w, w0 ≤ w ∧ RW s t w) ∧ FU s t u)
theorem mn_l {σ τ : am_S} {A Z : Nat → Nat} {p q u w : Nat} {X : Int64} {x7 : Int32} {Q : Int32 → am_S → Int32 → am_S → Prop} (hG : GB σ τ p q) (hc : SXc σ A Z) (hm : SXm τ A Z) (hu : u < 4) (h47 : σ.2.1 47 u = nI 0) (hW : RW σ τ w)
    (hno : ∀ s M, R1 M (fun y _ => y = 0) → R2 (some ((0 : Int32), s)) M Q)
    (hfin : ∀ s t p' lr fc op, p ≤ p' → RG 51 s t p' q → LH s t lr fc op → RW s t w → FU s t u → KEL [(47, u), (48, 30 * u)] σ s → KEL [(25, u), (26, 30 * u)] τ t → FR LW LA σ s → FR MW MA τ t → R2 (g_Li_readTable_174 X 1 s) (if x7 < t.1.1 0 6 then g_Mo_readLines_344 x7 t else g_Mo_readLines_345 x7 1 t) Q) :
    R2 (am_bd (g_Li_readHead σ) fun v71 σ71 =>
            if v71 = 0 then
              g_Li_readTable_173 X σ71
            else
              am_bd (g_Li_readNames (nI u) (0) σ71) fun v76 σ76 =>
              if v76 = 0 then
                g_Li_readTable_173 X σ76
              else
                am_bd (g_Li_readNames (nI u) (1) σ76) fun v81 σ81 =>
                if v81 = 0 then
                  g_Li_readTable_173 X σ81
                else
                  g_Li_readTable_174 X (1) σ81) (am_bd (g_Mo_u 1 τ) fun v28 σ28 => if (lg_cmp v28 1) = 0 then g_Mo_readLines_186 (nI u) x7 1 σ28 else g_Mo_readLines_186 (nI u) x7 0 σ28) Q := by
  refine hd_l hG (fun s M hM => ?_) (fun s t p' lr fc op hp' G hL f1 g1 => ?_)
  · rw [if_pos rfl, t173]
    exact hno s M hM
  · rw [if_neg i10]
    unfold g_Mo_readLines_306
    rw [if_neg i10]
    have S1 : SXc s A Z := SXc_fr hc f1
    have M1 : SXm t A Z := fun k hk => by rw [fr_b g1 (by decide), fr_b g1 (by decide)]; exact hm k hk
    refine R2_b (tb_l (b := 0) (Or.inl rfl) G S1 M1 hu (fun z => by omega)) (fun x2 s2 y2 t2 _ _ k2 => ?_)
    obtain ⟨f2, g2, n2, m2, k2⟩ := k2
    rcases k2 with ⟨rfl, rfl⟩ | ⟨rfl, rfl, ⟨p2, hp2, G2⟩, _, e47⟩
    · rw [if_pos rfl, if_pos rfl, t173]
      exact hno _ _ l344
    · rw [if_neg i10, if_neg i10]
      have S2 : SXc s2 A Z := fun k hk => by rw [fr_b f2 (by decide), fr_b f2 (by decide)]; exact S1 k hk
      have M2 : SXm t2 A Z := fun k hk => by rw [fr_b g2 (by decide), fr_b g2 (by decide)]; exact M1 k hk
      have e47' : s2.2.1 47 u = nI 0 := by rw [e47 rfl, fr_b f1 (by decide)]; exact h47
      refine R2_b (tb_l (b := 1) (Or.inr rfl) G2 S2 M2 hu (fun _ => e47')) (fun x3 s3 y3 t3 _ _ k3 => ?_)
      obtain ⟨f3, g3, n3, m3, k3⟩ := k3
      rcases k3 with ⟨rfl, rfl⟩ | ⟨rfl, rfl, ⟨p3, hp3, G3⟩, hX, _⟩
      · rw [if_pos rfl, if_pos rfl, t173]
        exact hno _ _ l344
      · rw [if_neg i10, if_neg i10]
        refine hfin s3 t3 p3 lr fc op (by omega) G3 (LH_fr (LH_fr hL f2 g2 (by decide)) f3 g3 (by decide)) (RW_fr (RW_fr (RW_fr hW f1 g1 (by decide)) f2 g2 (by decide)) f3 g3 (by decide)) (hX rfl) ?_ ?_ ?_ ?_
        · exact KEL_tr (KEL_fr f1 (by simp)) (KEL_tr (KEL_nr n2 (by simp)) (KEL_nr n3 (by simp)))
        · exact KEL_tr (KEL_fr g1 (by simp)) (KEL_tr (KEL_nr m2 (by simp)) (KEL_nr m3 (by simp)))
        · exact fr_tr (fr_up f1 (by decide) (fun _ h => by cases h)) (fr_tr (fr_up f2 (by decide) (by decide)) (fr_up f3 (by decide) (by decide)))
        · exact fr_tr (fr_up g1 (by decide) (fun _ h => by cases h)) (fr_tr (fr_up g2 (by decide) (by decide)) (fr_up g3 (by decide) (by decide)))
theorem rt_l {σ τ : am_S} {A Z : Nat → Nat} {u w f : Nat} {x : Int64} (hc : SXc σ A Z) (hm : SXm τ A Z) (hb : σ.2.1 1 = τ.2.1 2) (hu : u < 4) (hf : f < 200) (h14 : τ.2.1 14 u = nI f) (hx : τ.2.2 21 (11 * f + 7) = x) (h47 : σ.2.1 47 u = nI 0) (hW : RW σ τ w) : R2 (g_Li_readTable (nI u) x σ) (g_Mo_readLines (nI u) τ) (fun a s y t => LTZ u w a s y t ∧ (a = 1 → KEL [(47, u), (48, 30 * u)] σ s ∧ KEL [(25, u), (26, 30 * u)] τ t)) := by
  unfold g_Li_readTable g_Li_readTable_56 g_Li_readTable_119 g_Mo_readLines g_Mo_readLines_46
  rw [inb_nI hu (by decide), gd_t, nI_clamp (by omega), h14, show g_Mo_valueAt (nI f) 7 τ = _ from va_m (k := 7) hf (by decide), bd_t, hx]
  have fail : ∀ s t, R2 (some ((0 : Int32), s)) (some ((0 : Int32), t)) (fun a s y t => LTZ u w a s y t ∧ (a = 1 → KEL [(47, u), (48, 30 * u)] σ s ∧ KEL [(25, u), (26, 30 * u)] τ t)) := fun s t => R2_p ⟨Or.inl ⟨rfl, rfl⟩, fun z => absurd z (by decide)⟩
  have failM : ∀ s M, R1 M (fun y _ => y = 0) → R2 (some ((0 : Int32), s)) M (fun a s y t => LTZ u w a s y t ∧ (a = 1 → KEL [(47, u), (48, 30 * u)] σ s ∧ KEL [(25, u), (26, 30 * u)] τ t)) := fun s M hM => R2_of (P := fun a _ => a = 0) (R1_p rfl) hM (fun a s y t _ _ h1 h2 => ⟨Or.inl ⟨h1, h2⟩, fun z => absurd (h1.symm.trans z) (by decide)⟩)
  -- the place in the section
  have hP : ∃ a z, a + z ≤ 3000 ∧ R2 (g_Se_point 51 (nI 7) x σ) (g_Mo_enter (nI 7) x τ) (fun _ s' _ t' => FR [(51, 1), (51, 2), (51, 3)] [] σ s' ∧ FR [(0, 6), (0, 7), (0, 8)] [] τ t' ∧ ((∃ p, p ≤ a + z ∧ RG 51 s' t' p (a + z)) ∨ BD 51 s' t')) := by
    obtain ⟨h6, h7, hle⟩ := hc 7 (by decide)
    obtain ⟨h3, h4, _⟩ := hm 7 (by decide)
    refine ⟨A 7, Z 7, hle, ?_⟩
    have h4' : τ.2.1 4 7 = nI (A 7 + Z 7 - A 7) := by rw [h4]; congr 1; omega
    by_cases c : x < 0 ∨ lN (A 7 + Z 7 - A 7) < x
    · have e1 := po_bad (k := 51) (s := 7) (by decide) h6 h7 (by omega) hle c
      have e2 := en_bad (s := 7) (by decide) h3 h4' (by omega) hle c
      exact ⟨_, _, _, _, e1, e2, f_Se_point e1, f_Mo_enter e2, Or.inr ⟨by rw [fi_at]; decide, by rw [fi_at]; decide⟩⟩
    · obtain ⟨n, hn, ex⟩ := in_pos (d := A 7 + Z 7 - A 7) (by omega) c
      rw [ex]
      have e1 := po_ok (k := 51) (s := 7) (n := n) (by decide) h6 h7 hle (by omega)
      have e2 := en_ok (s := 7) (n := n) (by decide) h3 h4' hle (by omega)
      exact ⟨_, _, _, _, e1, e2, f_Se_point e1, f_Mo_enter e2, Or.inl ⟨A 7 + n, by omega, CU_0 (by omega) hle, RU_0 (by omega) hle, hb⟩⟩
  obtain ⟨a, z, haz, _, s1, _, t1, e1, e1', f1, g1, k1⟩ := hP
  rw [show g_Se_point 51 7 x σ = _ from e1, show g_Mo_enter 7 x τ = _ from e1', bd_t, bd_t]
  rcases k1 with ⟨p1, hp1, G1⟩ | b1
  · obtain ⟨v2, s2, w2, t2, e2, e2', f2, g2, k2⟩ := xu (m := 4) G1 (by omega) (by omega)
    rw [show g_Cu_number 51 4 s1 = _ from e2, show g_Mo_u 4 t1 = _ from e2', bd_t, bd_t]
    rcases k2 with ⟨hq2, G2, rfl, rfl⟩ | ⟨b2, _, _⟩
    · have n4 := num_lt (s1.2.1 1) 4 p1
      generalize num (s1.2.1 1) p1 4 = sz at *
      rw [if_pos (RG_3 G2), if_pos (RG_8 G2), G2.1.1, G2.1.2.1, G2.2.1.1, G2.2.1.2.1, pk_sub (show p1 + 4 ≤ a + z by omega), nI_l (by omega)]
      by_cases cz : lN (a + z - (p1 + 4)) < lN sz
      · rw [if_pos ((cmp_gt _ _).mpr cz), if_pos ((cmp_gt _ _).mpr cz)]
        exact fail _ _
      · rw [if_neg (fun y => cz ((cmp_gt _ _).mp y)), if_neg (fun y => cz ((cmp_gt _ _).mp y)), lN_i, nI_add]
        have hz : sz ≤ a + z - (p1 + 4) := by
          have := mt (lNl (x := a + z - (p1 + 4)) (c := sz) (by omega) (by omega)).mpr cz
          omega
        have fq : FR [(51, 2)] [] s2 (am_fi s2 51 2 (nI (p1 + 4 + sz))) := fr_fi fr_rf (by simp)
        have gq : FR [(0, 7)] [] t2 (am_fi t2 0 7 (nI (p1 + 4 + sz))) := fr_fi fr_rf (by simp)
        have G3 : RG 51 (am_fi s2 51 2 (nI (p1 + 4 + sz))) (am_fi t2 0 7 (nI (p1 + 4 + sz))) (p1 + 4) (p1 + 4 + sz) := ⟨⟨(fi_no (Or.inl (by decide))).trans G2.1.1, fi_at, (fi_no (Or.inl (by decide))).trans G2.1.2.2.1, by omega, by omega⟩, ⟨(fi_no (Or.inl (by decide))).trans G2.2.1.1, fi_at, (fi_no (Or.inl (by decide))).trans G2.2.1.2.2.1, by omega, by omega⟩, G2.2.2⟩
        generalize hq : p1 + 4 + sz = q at *
        have GB3 : GB (am_fi s2 51 2 (nI q)) (am_fi t2 0 7 (nI q)) 0 q := Or.inl ⟨p1 + 4, by omega, G3⟩
        obtain ⟨v4, s4, w4, t4, e4, e4', rfl, ⟨c4, hc4, rfl⟩, f4, g4, G4⟩ := gbu (m := 2) GB3 (by omega) (by omega)
        rw [show g_Cu_number 51 2 _ = _ from e4, show g_Mo_u 2 _ = _ from e4', bd_t, bd_t]
        by_cases q4 : lg_cmp (lN c4) 5 = 0
        · rw [if_pos q4, if_pos q4]
          unfold g_Mo_readLines_76 g_Mo_readLines_99
          obtain ⟨v5, s5, w5, t5, e5, e5', rfl, ⟨c5, hc5, rfl⟩, f5, g5, G5⟩ := gbu (m := 1) G4 (by omega) (by omega)
          rw [show g_Cu_number 51 1 _ = _ from e5, show g_Mo_u 1 _ = _ from e5', bd_t, bd_t]
          by_cases q5 : lg_cmp (lN c5) 8 = 0
          · rw [if_pos q5, if_pos q5, if_neg i10]
            unfold g_Mo_readLines_100 g_Mo_readLines_121
            obtain ⟨v6, s6, w6, t6, e6, e6', rfl, ⟨c6, hc6, rfl⟩, f6, g6, G6⟩ := gbu (m := 1) G5 (by omega) (by omega)
            rw [show g_Cu_number 51 1 _ = _ from e6, show g_Mo_u 1 _ = _ from e6', bd_t, bd_t]
            by_cases q6 : lg_cmp (lN c6) 0 = 0
            · rw [if_pos q6, if_pos q6, if_neg i10]
              unfold g_Mo_readLines_122 g_Mo_readLines_159
              obtain ⟨v7, s7, w7, t7, e7, e7', rfl, ⟨c7, hc7, rfl⟩, f7, g7, G7⟩ := gbu (m := 4) G6 (by omega) (by omega)
              rw [show g_Cu_number 51 4 _ = _ from e7, show g_Mo_u 4 _ = _ from e7', bd_t, bd_t, if_neg i10]
              have fA : FR [(51, 1), (51, 2), (51, 3)] [] σ s7 := fr_tr f1 (fr_tr (fr_up f2 (by decide) (fun _ h => h)) (fr_tr (fr_up fq (by decide) (fun _ h => h)) (fr_tr (fr_up f4 (by decide) (fun _ h => h)) (fr_tr (fr_up f5 (by decide) (fun _ h => h)) (fr_tr (fr_up f6 (by decide) (fun _ h => h)) (fr_up f7 (by decide) (fun _ h => h)))))))
              have gA : FR [(0, 6), (0, 7), (0, 8)] [] τ t7 := fr_tr g1 (fr_tr (fr_up g2 (by decide) (fun _ h => h)) (fr_tr (fr_up gq (by decide) (fun _ h => h)) (fr_tr (fr_up g4 (by decide) (fun _ h => h)) (fr_tr (fr_up g5 (by decide) (fun _ h => h)) (fr_tr (fr_up g6 (by decide) (fun _ h => h)) (fr_up g7 (by decide) (fun _ h => h)))))))
              have S7 : SXc s7 A Z := SXc_fr hc fA
              have M7 : SXm t7 A Z := fun k hk => by rw [fr_b gA (by decide), fr_b gA (by decide)]; exact hm k hk
              have W7 : RW s7 t7 w := RW_fr hW fA gA (by decide)
              have e47 : s7.2.1 47 u = nI 0 := by rw [fr_b fA (by decide)]; exact h47
              have hq3 : q ≤ 3000 := by omega
              -- the class alone: the program would begin behind the end, or the head was bad
              have alone : ∀ X : Int64, (∀ s : am_S, s.1.1 51 2 = nI q → 0 < lg_cmp X ((s.1.1 51 2).toInt64)) → R1 (am_bd (g_Li_readHead s7) fun v71 σ71 => if v71 = 0 then g_Li_readTable_173 X σ71 else am_bd (g_Li_readNames (nI u) 0 σ71) fun v76 σ76 => if v76 = 0 then g_Li_readTable_173 X σ76 else am_bd (g_Li_readNames (nI u) 1 σ76) fun v81 σ81 => if v81 = 0 then g_Li_readTable_173 X σ81 else g_Li_readTable_174 X 1 σ81) (fun y _ => y = 0) := by
                intro X hX
                have := mn_l (X := X) (x7 := nI q) (Q := fun x _ _ _ => x = 0) G7 S7 M7 hu e47 W7 (fun s M hM => R2_of (P := fun x _ => x = 0) (R1_p rfl) hM (fun _ _ _ _ _ _ a _ => a)) (fun s t p' lr fc op hp' G hL hW' hFU k1 k2 F1 F2 => ?_)
                · obtain ⟨x0, s0, y0, t0, E1, _, P⟩ := this
                  exact ⟨x0, s0, E1, P⟩
                · have hs2 : s.1.1 51 2 = nI q := G.1.2.1
                  have hX := hX s hs2
                  have eC : g_Li_readTable_174 X 1 s = some (0, s) := by
                    unfold g_Li_readTable_174 g_Li_readTable_209
                    rw [if_neg i10, if_pos hX]
                    simp only [ite_self]
                  rw [eC]
                  have hq' := RG_q G
                  have eM : R1 (if nI q < t.1.1 0 6 then g_Mo_readLines_344 (nI q) t else g_Mo_readLines_345 (nI q) 1 t) (fun _ _ => True) := by
                    rw [G.2.1.1, if_neg (nI_nlt (by omega) (by omega))]
                    unfold g_Mo_readLines_345 g_Mo_begin
                    rw [bd_t]
                    unfold g_Mo_readLines_357 g_Mo_readLines_392 g_Mo_readLines_409
                    rw [if_neg i10, if_neg i10, if_neg (show ¬ (am_fi (am_fi (am_fl (am_fl t 0 47 0) 0 48 1) 0 49 1) 0 6 (nI q)).1.1 0 6 < (am_fi (am_fi (am_fl (am_fl t 0 47 0) 0 48 1) 0 49 1) 0 6 (nI q)).1.1 0 7 by rw [fi_at, fi_no (Or.inl (by decide)), fi_no (Or.inl (by decide)), fl_i, fl_i, G.2.1.2.1]; exact nI_nlt (Nat.le_refl _) (by omega)), if_pos (show (am_fi (am_fi (am_fl (am_fl t 0 47 0) 0 48 1) 0 49 1) 0 6 (nI q)).1.1 0 8 = 0 by rw [fi_no (Or.inl (by decide)), fi_no (Or.inl (by decide)), fl_i, fl_i]; exact RG_8 G)]
                    exact R1_p trivial
                  exact R2_of (P := fun x _ => x = 0) (R1_p rfl) eM (fun _ _ _ _ _ _ a _ => a)
              rcases G7 with ⟨p7, hp7, G7⟩ | b7
              · have hq7 := RG_q G7
                rw [if_pos (RG_8 G7), G7.1.1, G7.2.1.1, G7.2.1.2.1, pk_sub (show p7 ≤ q by omega), nI_l (by omega), nI_l (by omega), lN_add, lN_i, nI_add]
                by_cases ch : lN (q - p7) < lN c7
                · rw [if_pos ((cmp_gt _ _).mpr ch)]
                  have hch := (lNl (by omega) (by omega)).mp ch
                  refine R2_of (alone (lN (p7 + c7)) (fun s hs => ?_)) (R1_p (P := fun y _ => y = 0) rfl) (fun a s y t _ _ h1 h2 => ⟨Or.inl ⟨h1, h2⟩, fun z => absurd (h1.symm.trans z) (by decide)⟩)
                  rw [hs, nI_l (by omega)]
                  exact (cmp_gt _ _).mpr ((lNl (by omega) (by omega)).mpr (by omega))
                · rw [if_neg (fun y => ch ((cmp_gt _ _).mp y))]
                  have hch : c7 ≤ q - p7 := by
                    have := mt (lNl (x := q - p7) (c := c7) (by omega) (by omega)).mpr ch
                    omega
                  refine mn_l (X := lN (p7 + c7)) (x7 := nI (p7 + c7)) (Or.inl ⟨p7, Nat.le_refl _, G7⟩) S7 M7 hu e47 W7 failM (fun s t p' lr fc op hp' G hL hW' hFU k1 k2 F1 F2 => ?_)
                  have hq' := RG_q G
                  unfold g_Li_readTable_174 g_Li_readTable_209
                  rw [if_neg i10, G.1.1, G.1.2.1, G.2.1.1, nI_l (by omega), nI_l (by omega)]
                  by_cases cp : p7 + c7 < p'
                  · rw [if_pos ((cmp_lt _ _).mpr ((lNl (by omega) (by omega)).mpr cp)), if_pos (nI_lt cp (by omega))]
                    exact failM _ _ l344
                  · rw [if_neg (fun y => cp ((lNl (by omega) (by omega)).mp ((cmp_lt _ _).mp y))), if_neg (nI_nlt (by omega) (by omega)), if_neg (fun y => by
                      have := (lNl (by omega) (by omega)).mp ((cmp_gt _ _).mp y)
                      omega), lN_i]
                    unfold g_Li_readProgram g_Li_restart g_Mo_readLines_345 g_Mo_begin
                    rw [bd_t, bd_t]
                    have fR : FR [(49, 12), (49, 13), (49, 14), (51, 1)] [] s (am_fi (am_fl (am_fl (am_fi s 51 1 (nI (p7 + c7))) 49 12 0) 49 13 1) 49 14 1) := fr_fi (fr_fl (fr_fl (fr_fi fr_rf (by simp)) (by simp)) (by simp)) (by simp)
                    have gR : FR [(0, 47), (0, 48), (0, 49), (0, 6)] [] t (am_fi (am_fi (am_fl (am_fl t 0 47 0) 0 48 1) 0 49 1) 0 6 (nI (p7 + c7))) := fr_fi (fr_fi (fr_fl (fr_fl fr_rf (by simp)) (by simp)) (by simp)) (by simp)
                    have hPS : PS (am_fi (am_fl (am_fl (am_fi s 51 1 (nI (p7 + c7))) 49 12 0) 49 13 1) 49 14 1) (am_fi (am_fi (am_fl (am_fl t 0 47 0) 0 48 1) 0 49 1) 0 6 (nI (p7 + c7))) (p7 + c7) q w lr fc op := by
                      refine ⟨⟨⟨?_, ?_, ?_, by omega, by omega⟩, ⟨fi_at, ?_, ?_, by omega, by omega⟩, ?_⟩, RW_fr hW' fR gR (by decide), ⟨?_, ?_, ?_⟩, LH_fr hL fR gR (by decide)⟩
                      · rw [fi_no (Or.inl (by decide)), fl_i, fl_i, fi_at]
                      · rw [fr_i fR (by decide)]; exact G.1.2.1
                      · rw [fr_i fR (by decide)]; exact G.1.2.2.1
                      · rw [fr_i gR (by decide)]; exact G.2.1.2.1
                      · rw [fr_i gR (by decide)]; exact G.2.1.2.2.1
                      · exact G.2.2
                      · rw [fi_l, fl_no (Or.inl (by decide)), fl_at, fi_l, fi_l, fl_no (Or.inl (by decide)), fl_at]
                      · rw [fi_l, fl_at, fi_l, fi_l, fl_at]
                      · rw [fi_at, fi_no (Or.inl (by decide)), fi_at]
                    have hx := pg_l 3000 (p7 + c7) (by omega) _ _ w 0 hPS (Nat.le_refl _) fr_rf (by omega) 4000 4000 (by omega) (by omega)
                    obtain ⟨x9, s9, y9, t9, e9, e9', k9⟩ := hx
                    have f9 := f_Li_readProgram_6 _ e9
                    rw [show g_Li_readProgram_6 4000 0 _ = _ from e9, e9', bd_t]
                    rcases k9 with ⟨rfl, rfl⟩ | ⟨rfl, rfl, hw9, g9⟩
                    · rw [show z01 0 = true from by decide, gd_t]
                      exact fail _ _
                    · rw [show z01 1 = true from by decide, gd_t]
                      have kC : KEL [(47, u), (48, 30 * u)] s s9 := KEL_tr (KEL_fr fR (by simp)) (KEL_fr f9 (by simp))
                      refine R2_p ⟨Or.inr ⟨rfl, rfl, hw9, ?_⟩, fun _ => ⟨KEL_tr (KEL_fr fA (by simp)) (KEL_tr k1 kC), KEL_tr (KEL_fr gA (by simp)) (KEL_tr k2 (KEL_tr (KEL_fr gR (by simp)) (KEL_fr g9 (by simp))))⟩⟩
                      obtain ⟨T, hT, a1, a2, a3⟩ := hFU
                      have c47 : s9.2.1 47 = s.2.1 47 := (fr_b f9 (by decide)).trans (fr_b fR (by decide))
                      have c48 : s9.2.1 48 = s.2.1 48 := (fr_b f9 (by decide)).trans (fr_b fR (by decide))
                      have c1 : s9.2.1 1 = s.2.1 1 := (fr_b f9 (by decide)).trans (fr_b fR (by decide))
                      have c25 : t9.2.1 25 = t.2.1 25 := (fr_b g9 (by decide)).trans (fr_b gR (by decide))
                      have c26 : t9.2.1 26 = t.2.1 26 := (fr_b g9 (by decide)).trans (fr_b gR (by decide))
                      refine ⟨T, hT, by rw [c47]; exact a1, by rw [c25]; exact a2, fun k hk => ?_⟩
                      rw [c48, c26, c1]
                      exact a3 k hk
              · rw [if_neg b7.2]
                have eH : g_Li_readHead s7 = some (0, am_fi s7 51 3 1) := by
                  unfold g_Li_readHead g_Li_readHead_26
                  rw [bn b7.1, bd_t, if_neg (by decide)]
                rw [eH, bd_t, if_pos rfl, t173]
                exact fail _ _
            · rw [if_neg q6, if_neg q6]
              exact failM _ _ (l122_0 (GB_mu G6))
          · rw [if_neg q5, if_neg q5]
            exact failM _ _ (l100_0 (GB_mu G5))
        · rw [if_neg q4, if_neg q4]
          exact failM _ _ (l76_0 (GB_mu G4))
    · rw [if_neg b2.1, if_neg b2.2]
      exact fail _ _
  · rw [bn b1.1, bmu b1.2, bd_t, bd_t, if_neg (by rw [fi_at]; decide), if_neg (by rw [fi_at]; decide)]
    exact fail _ _
