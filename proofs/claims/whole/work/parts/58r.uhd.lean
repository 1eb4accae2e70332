/-! a unit up to its entries -/
def nx (fs : Nat → Nat) (U N : Nat) : Nat → Nat := fun u => if u = U then N else fs u
theorem un_l {σ τ : am_S} {N U p pA q1 : Nat} {fs : Nat → Nat} {F : Int32 → am_S → Option (Int32 × am_S)} {H : Int32 → am_S → Option (Int32 × am_S)} {Q : Int32 → am_S → Int32 → am_S → Prop} (hL : UL σ τ N U fs) (hU : U < 4) (hG : RG 30 σ τ pA q1) (hp : p ≤ 3000)
    (h0 : ∀ s t, R2 (F 0 s) (H 0 t) Q)
    (h1 : ∀ s t p4 na, pA ≤ p4 → LPZ (am_fi (am_fi s 21 5 (-1)) 21 6 0) (am_fi t 0 23 0) p4 q1 N (U + 1) (nx fs U N) 0 na → SR s t → R2 (F 1 s) (am_bd (am_bd (g_Mo_readEntries t) fun v71 σ71 => am_gd (z01 v71) <| some (v71, σ71)) H) Q) :
    R2 (am_bd (am_bd (g_Cu_number 30 (2) σ) fun v37 σ37 =>
      if (lg_cmp v37 5) = 0 then
        am_bd (g_Cu_number 30 (1) σ37) fun v44 σ44 =>
        if (lg_cmp v44 1) = 0 then
          am_bd (g_Cu_number 30 (1) σ44) fun v51 σ51 =>
          if (lg_cmp v51 8) = 0 then
            am_bd (g_Cu_number 30 (4) σ51) fun v58 σ58 =>
            if (σ58.1.1 30 3) = 0 then
              am_bd (g_En_addUnit (nI p) σ58) fun _ σ67 =>
              am_bd (g_Se_point 31 (0) v58 σ67) fun _ σ74 =>
              am_bd (g_Ab_read_31 σ74) fun v79 σ79 =>
              am_gd (z01 v79) <|
              some (v79, σ79)
            else
              some (0, σ58)
          else
            g_Ur_readHead_110 σ51
        else
          g_Ur_readHead_110 σ44
      else
        g_Ur_readHead_110 σ37) F) (am_bd (g_Mo_readUnit (nI p) τ) H) Q := by
  unfold g_Ur_readHead_110
  rw [rU_eq]
  have no : ∀ (s : am_S) (M : Option (Int32 × am_S)), R1 M (fun y _ => y = 0) → R2 (am_bd (some ((0 : Int32), s)) F) (am_bd M H) Q := fun s M hM => by
    rw [bd_t]
    exact R2_r hM (fun b t _ e => by rw [e]; exact h0 s t)
  obtain ⟨v1, s1, w1, t1, e1, e1', f1, g1, k1⟩ := xu (m := 2) hG (by omega) (by omega)
  rw [show g_Cu_number 30 2 σ = _ from e1, show g_Mo_u 2 τ = _ from e1', bd_t, bd_t]
  rcases k1 with ⟨hq1, G1, rfl, rfl⟩ | ⟨b1, rfl, rfl⟩
  · by_cases c1 : lg_cmp (lN (num (σ.2.1 1) pA 2)) 5 = 0
    · rw [if_pos c1]
      obtain ⟨v2, s2, w2, t2, e2, e2', f2, g2, k2⟩ := xu (m := 1) G1 (by omega) (by omega)
      rw [show g_Cu_number 30 1 s1 = _ from e2, show g_Mo_u 1 t1 = _ from e2', bd_t, bd_t]
      rcases k2 with ⟨hq2, G2, rfl, rfl⟩ | ⟨b2, rfl, rfl⟩
      · by_cases c2 : lg_cmp (lN (num (s1.2.1 1) (pA + 2) 1)) 1 = 0
        · rw [if_pos c2]
          obtain ⟨v3, s3, w3, t3, e3, e3', f3, g3, k3⟩ := xu (m := 1) G2 (by omega) (by omega)
          rw [show g_Cu_number 30 1 s2 = _ from e3, show g_Mo_u 1 t2 = _ from e3', bd_t, bd_t]
          rcases k3 with ⟨hq3, G3, rfl, rfl⟩ | ⟨b3, rfl, rfl⟩
          · by_cases c3 : lg_cmp (lN (num (s2.2.1 1) (pA + 2 + 1) 1)) 8 = 0
            · rw [if_pos c3]
              obtain ⟨v4, s4, w4, t4, e4, e4', f4, g4, k4⟩ := xu (m := 4) G3 (by omega) (by omega)
              rw [show g_Cu_number 30 4 s3 = _ from e4, show g_Mo_u 4 t3 = _ from e4', bd_t, bd_t]
              rcases k4 with ⟨hq4, G4, rfl, rfl⟩ | ⟨b4, rfl, rfl⟩
              · rw [if_pos (RG_3 G4)]
                have F4 := fr_tr (fr_tr (fr_tr f1 f2) f3) f4
                have K4 := fr_tr (fr_tr (fr_tr g1 g2) g3) g4
                have L4 := UL_fr hL F4 K4 (by decide) (by decide) (by decide)
                obtain ⟨_, s5, e5, A1, A2, A3, A4, A5, A6⟩ := au_c (pl := nI p) hU (UL_n L4) (UL_u L4)
                rw [e5, bd_t]
                generalize num (s3.2.1 1) (pA + 2 + 1 + 1) 4 = pl
                unfold rU_b
                rw [if_pos (RG_8 G4), if_pos c1, if_pos c2, if_pos c3]
                unfold g_Ab_read_31 g_Mo_readAbbreviations g_Mo_readUnit_78
                have S5 : SR s5 t4 := SR_fr (UL_sr L4) A2 (fr_rf (W := []) (A := [])) (by decide)
                have B5 : s5.2.1 1 = t4.2.1 2 := (fr_b A2 (by decide)).trans (UL_b L4)
                obtain ⟨a0, z0, hle, _, _, _, _, R⟩ := xp (k := 31) (s := 0) (x := lN pl) (by omega) S5 B5
                obtain ⟨_, s6, _, t6, e6, e6', f6, g6, k6⟩ := R
                rw [show g_Se_point 31 0 (lN pl) s5 = _ from e6, show g_Mo_enter 0 (lN pl) t4 = _ from e6', bd_t, bd_t]
                have hAb : R2 (g_Ab_read_31_7 4000 0 (am_fi s6 22 7 0)) (g_Mo_readAbbreviations_16 4000 1 1 (am_fi t6 0 13 0)) AbP := by
                  have fC : FR [(22, 7)] [] s6 (am_fi s6 22 7 0) := fr_fi fr_rf (by simp)
                  have fM : FR [(0, 13)] [] t6 (am_fi t6 0 13 0) := fr_fi fr_rf (by simp)
                  rcases k6 with ⟨n, _, _, G6⟩ | ⟨b6, _⟩
                  · exact ab_l 40 0 rfl (am_fi s6 22 7 0) (am_fi t6 0 13 0) _ (RG_fr G6 fC fM (by decide)) fi_at fi_at (fun a ha => absurd ha (by omega)) 4000 4000 (by omega) (by omega)
                  · have b6' := BD_fr b6 fC fM (by decide)
                    exact R2_of (ab_cb (i := 0) b6'.1) (ab_mb b6'.2) (fun _ _ _ _ _ _ h1 h2 => Or.inl ⟨h1, h2⟩)
                obtain ⟨x7, s7, y7, t7, e7, e7', k7⟩ := hAb
                rw [e7, e7', bd_t, bd_t]
                have f7 := f_Ab_read_31_7 _ e7
                have g7 := f_Mo_readAbbreviations_16 _ e7'
                rcases k7 with ⟨rfl, rfl⟩ | ⟨rfl, rfl, na, hna, H7, H13, HA⟩
                · rw [if_pos rfl]
                  exact no _ _ (R1_p rfl)
                · rw [if_neg i10, show z01 1 = true from by decide, gd_t, bd_t]
                  -- everything since the unit's head, in frames
                  have fC : FR [(22, 7), (31, 1), (31, 2), (31, 3)] [23, 24, 25, 26, 27, 28, 29] s5 s7 := fr_tr (fr_up f6 (by decide) (fun _ h => by cases h)) (fr_tr (fr_fi fr_rf (by simp)) (fr_up f7 (by decide) (fun _ h => h)))
                  have fM : FR [(0, 13), (0, 6), (0, 7), (0, 8)] [6, 7, 8, 9, 10, 11, 12] t4 t7 := fr_tr (fr_up g6 (by decide) (fun _ h => by cases h)) (fr_tr (fr_fi fr_rf (by simp)) g7)
                  have M21 : t7.1.1 0 21 = nI U := (fr_i fM (by decide)).trans (UL_v L4)
                  have M22 : t7.1.1 0 22 = nI N := (fr_i fM (by decide)).trans (UL_m L4)
                  rw [M21, M22, inb_nI hU (by decide), gd_t, gd_t, nI_clamp (by omega), G4.2.1.1, show nI U + 1 = nI (U + 1) from nI_add U 1, hG.2.1.2.1]
                  have hUN := UL_l L4
                  refine h1 s7 _ (pA + 2 + 1 + 1 + 4) na (by omega) ?_ ?_
                  · -- the two states at the head of the loop
                    have C0 : FR [(10, 11)] [17, 18, 19, 20] s4 s5 := A2
                    have D0 : FR [(0, 13), (0, 21), (0, 23), (0, 6), (0, 7), (0, 8)] [6, 7, 8, 9, 10, 11, 12, 13, 14] t4 (am_fi (am_fi (am_ai (am_ai (am_fi (am_fi (am_fi t7 0 6 (nI (pA + 2 + 1 + 1 + 4))) 0 7 (nI q1)) 0 8 0) 13 U (nI p)) 14 U (nI N)) 0 21 (nI (U + 1))) 0 23 0) := fr_fi (fr_fi (fr_ai (fr_ai (fr_fi (fr_fi (fr_fi (fr_up fM (by decide) (by decide)) (by simp)) (by simp)) (by simp)) (by simp)) (by simp)) (by simp)) (by simp)
                    have E0 : FR [(21, 5), (21, 6), (22, 7), (31, 1), (31, 2), (31, 3)] [23, 24, 25, 26, 27, 28, 29] s5 (am_fi (am_fi s7 21 5 (-1)) 21 6 0) := fr_fi (fr_fi (fr_up fC (by decide) (fun _ h => h)) (by simp)) (by simp)
                    have KC : KEL (CL N (4 * U) U) s4 (am_fi (am_fi s7 21 5 (-1)) 21 6 0) := KEL_tr (KEL_nr A3 (by simp [CL])) (KEL_fr E0 (by simp [CL]))
                    have KM : KEL (ML N U) t4 (am_fi (am_fi (am_ai (am_ai (am_fi (am_fi (am_fi t7 0 6 (nI (pA + 2 + 1 + 1 + 4))) 0 7 (nI q1)) 0 8 0) 13 U (nI p)) 14 U (nI N)) 0 21 (nI (U + 1))) 0 23 0) := KEL_tr (KEL_fr fM (by simp [ML])) (KEL_nr (NR_e (NR_ai (NR_ai (NR_rf (A := [(13, U), (14, U)]) (σ := t7)) (L := U) (j := U) (by simp) (Nat.le_refl _) (k := 13) (v := nI p)) (L := U) (j := U) (k := 14) (v := nI N) (by simp) (Nat.le_refl _)) rfl) (by simp [ML]))
                    have nxU : nx fs U N U = N := if_pos rfl
                    have nxo : ∀ u, u < U → nx fs U N u = fs u := fun u hu => if_neg (by omega)
                    have hb : (am_fi (am_fi s7 21 5 (-1)) 21 6 0).2.1 1 = s4.2.1 1 := (fr_b E0 (by decide)).trans (fr_b C0 (by decide))
                    have CU4 := CU_fr (CU_fr G4.1 C0 (by decide) (by decide) (by decide)) E0 (by decide) (by decide) (by decide)
                    have hq1' := RG_q G4
                    refine ⟨⟨CU4, ?_, ?_⟩, ?_, ?_, hUN, ?_, ?_, by omega, by omega, fi_at, fi_at, by omega, ?_, fun e he => ?_, fun u hu => ?_, fun u hu => ?_, ?_, ?_, hna, fun x hx => ?_, fun _ => ⟨rfl, fun k hk => ?_⟩⟩
                    · refine ⟨?_, ?_, ?_, hq1'.1, hq1'.2⟩
                      · rw [fi_no (Or.inl (by decide)), fi_no (Or.inl (by decide)), ai_f, ai_f, fi_no (Or.inl (by decide)), fi_no (Or.inl (by decide)), fi_at]
                      · rw [fi_no (Or.inl (by decide)), fi_no (Or.inl (by decide)), ai_f, ai_f, fi_no (Or.inl (by decide)), fi_at]
                      · rw [fi_no (Or.inl (by decide)), fi_no (Or.inl (by decide)), ai_f, ai_f, fi_at]
                        rfl
                    · rw [hb, fr_b D0 (by decide)]
                      exact UL_b L4
                    · rw [fr_i E0 (by decide), fr_i C0 (by decide)]; exact UL_n L4
                    · rw [fr_i D0 (by decide)]; exact UL_m L4
                    · rw [fr_i E0 (by decide)]; exact A1
                    · rw [fi_no (Or.inl (by decide)), fi_at]
                    · show (am_fi (am_fi s7 21 5 (-1)) 21 6 0).1.1 21 5 = -1
                      rw [fi_no (Or.inl (by decide)), fi_at]
                    · obtain ⟨u, hu, E⟩ := UL_en L4 e he
                      exact ⟨u, by omega, EN1_up E he (by omega) hu KC KM hb⟩
                    · by_cases c : u = U
                      · subst c
                        rw [nxU]
                        refine ⟨Nat.le_refl _, ?_, ?_, ⟨p, hp, ?_, ?_⟩, fun z => by omega, fun e he v hv ev => ?_⟩
                        · rw [fr_b E0 (by decide)]; exact A6
                        · show (am_ai _ 14 u (nI N)).2.1 14 u = nI N
                          exact ai_at
                        · rw [fr_b E0 (by decide)]; exact A5
                        · show (am_ai (am_ai _ 13 u (nI p)) 14 u (nI N)).2.1 13 u = nI p
                          rw [ai_no (Or.inl (by decide)), ai_at]
                        · obtain ⟨w, hw, E⟩ := UL_en L4 e he
                          have ev' : s4.2.1 13 e = nI v := (KEL_i KC N (by simp [CL]) he).symm.trans ev
                          have := (nI_eq (by omega) (by omega)).mp (E.1.symm.trans ev')
                          omega
                      · rw [nxo u (by omega)]
                        exact UN1_up (UL_un L4 u (by omega)) (show u < U by omega) KC KM
                    · rw [nxo u (by omega)]
                      exact UL_fl L4 u (by omega)
                    · rw [fi_no (Or.inr (by decide)), fi_no (Or.inr (by decide))]; exact H7
                    · rw [fi_no (Or.inl (by decide)), fi_no (Or.inl (by decide)), ai_f, ai_f, fi_no (Or.inl (by decide)), fi_no (Or.inl (by decide)), fi_no (Or.inl (by decide))]; exact H13
                    · exact AB1_fr (HA x hx) (fr_fi (W := [(21, 5), (21, 6)]) (A := []) (fr_fi fr_rf (by simp)) (by simp)) (fr_fi (W := [(0, 21), (0, 23), (0, 6), (0, 7), (0, 8)]) (A := [13, 14]) (fr_fi (fr_ai (fr_ai (fr_fi (fr_fi (fr_fi fr_rf (by simp)) (by simp)) (by simp)) (by simp)) (by simp)) (by simp)) (by simp)) (by decide)
                    · rw [show U + 1 - 1 = U from rfl, fr_b E0 (by decide), fr_c E0 (by decide)]
                      exact A4 k hk
                  · exact SR_fr S5 fC (fr_fi (W := [(0, 13), (0, 21), (0, 6), (0, 7), (0, 8)]) (A := [6, 7, 8, 9, 10, 11, 12, 13, 14]) (fr_ai (fr_ai (fr_fi (fr_fi (fr_fi (fr_up fM (by decide) (by decide)) (by simp)) (by simp)) (by simp)) (by simp)) (by simp)) (by simp)) (by decide)
              · rw [if_neg b4.1, rU_0 (fun z => b4.2 z.1)]
                exact no _ _ (R1_p rfl)
            · rw [if_neg c3]
              exact no _ _ (rU_4 (Or.inl ⟨_, _, G3.2.1⟩) (Or.inl (fun z => c3 z.2.2)))
          · rw [if_neg (by decide)]
            exact no _ _ (rU_4 (Or.inr b3.2) (Or.inr b3.2))
        · rw [if_neg c2]
          exact no _ _ (rU_3 (Or.inl ⟨_, _, G2.2.1⟩) (Or.inl (fun z => c2 z.2)))
      · rw [if_neg (by decide)]
        exact no _ _ (rU_3 (Or.inr b2.2) (Or.inr b2.2))
    · rw [if_neg c1]
      exact no _ _ (rU_2 (Or.inl ⟨_, _, G1.2.1⟩) (Or.inl c1))
  · rw [if_neg (by decide)]
    exact no _ _ (rU_2 (Or.inr b1.2) (Or.inr b1.2))
