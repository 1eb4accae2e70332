/-! the head of a line table, both sides -/
def GB (σ τ : am_S) (p0 q : Nat) : Prop := (∃ p, p0 ≤ p ∧ RG 51 σ τ p q) ∨ BD 51 σ τ
theorem GB_fr {W W' : List (Nat × Nat)} {A A' : List Nat} {σ τ s t : am_S} {p q : Nat} (h : GB σ τ p q) (f : FR W A σ s) (g : FR W' A' τ t) (n : (W.contains (51, 1) || W.contains (51, 2) || W.contains (51, 3) || A.contains 1 || W'.contains (0, 6) || W'.contains (0, 7) || W'.contains (0, 8) || A'.contains 2) = false) : GB s t p q := by
  have n' := n
  simp only [Bool.or_eq_false_iff] at n'
  obtain ⟨⟨⟨⟨⟨⟨⟨n1, n2⟩, n3⟩, n4⟩, n5⟩, n6⟩, n7⟩, n8⟩ := n'
  exact h.imp (fun ⟨p, hp, G⟩ => ⟨p, hp, RG_fr G f g n⟩) (fun b => BD_fr b f g (by rw [n3, n7]; rfl))
theorem gbu {σ τ : am_S} {p q m : Nat} (h : GB σ τ p q) (h1 : 1 ≤ m) (h8 : m ≤ 8) : R2 (g_Cu_number 51 (nI m) σ) (g_Mo_u (nI m) τ) (fun v s w t => v = w ∧ (∃ c, c < 256 ^ m ∧ v = lN c) ∧ FR [(51, 1), (51, 3)] [] σ s ∧ FR [(0, 6), (0, 8)] [] τ t ∧ GB s t p q) := by
  rcases h with ⟨p', hp, G⟩ | b
  · refine R2_m (xu G h1 h8) (fun v s w t _ _ k => ?_)
    obtain ⟨f, g, k⟩ := k
    rcases k with ⟨hq, G', rfl, rfl⟩ | ⟨b, rfl, rfl⟩
    · exact ⟨rfl, ⟨_, num_lt _ _ _, rfl⟩, f, g, Or.inl ⟨_, by omega, G'⟩⟩
    · exact ⟨rfl, ⟨0, Nat.pow_pos (by decide), rfl⟩, f, g, Or.inr b⟩
  · exact ⟨_, _, _, _, bn b.1, bmu b.2, rfl, ⟨0, Nat.pow_pos (by decide), rfl⟩, fr_fi fr_rf (by simp), fr_fi fr_rf (by simp), Or.inr ⟨by rw [fi_at]; decide, by rw [fi_at]; decide⟩⟩
theorem gbs {σ τ : am_S} {p q : Nat} {x : Int64} (h : GB σ τ p q) : R2 (g_Cu_skip 51 x σ) (g_Mo_pass x τ) (fun _ s _ t => FR [(51, 1), (51, 3)] [] σ s ∧ FR [(0, 6), (0, 8)] [] τ t ∧ GB s t p q ∧ (∀ p1, RG 51 σ τ p1 q → s.1.1 51 3 = 0 → ∃ n, x = lN n ∧ p1 + n ≤ q)) := by
  rcases h with ⟨p', hp, G⟩ | b
  · refine R2_m (xs G) (fun _ s _ t _ _ k => ?_)
    obtain ⟨f, g, k⟩ := k
    rcases k with ⟨n, hn, ex, G'⟩ | ⟨b, _⟩
    · refine ⟨f, g, Or.inl ⟨_, by omega, G'⟩, fun p1 G1 _ => ⟨n, ex, ?_⟩⟩
      have := (nI_eq (by have := RG_q G; omega) (by have := RG_q G1; omega)).mp (G.1.1.symm.trans G1.1.1)
      omega
    · exact ⟨f, g, Or.inr b, fun p1 _ z => absurd z b.1⟩
  · exact ⟨_, _, _, _, bsk b.1, bmp b.2, fr_fi fr_rf (by simp), fr_fi (fr_fi fr_rf (by simp)) (by simp), Or.inr ⟨by rw [fi_at]; decide, by rw [fi_no (Or.inl (by decide)), fi_at]; decide⟩, fun p1 G1 _ => absurd (RG_3 G1) b.1⟩
theorem sub1 {c : Nat} (hc : c < 256) : (nI c - 1).toInt64 = (nI c).toInt64 - 1 := by
  have := sub_l (a := c) (b := 1) (by omega) (by omega)
  rw [show nI c - 1 = nI c - nI 1 from rfl, this, nI_l (by omega)]
  rfl
theorem l306_0 {x1 x7 : Int32} {τ : am_S} : R1 (g_Mo_readLines_306 x1 x7 0 τ) (fun y _ => y = 0) := by
  unfold g_Mo_readLines_306 g_Mo_readLines_344 g_Mo_readLines_345 g_Mo_begin
  rw [if_pos rfl, bd_t, pg_0]
  exact R1_p rfl
theorem mu_p {τ : am_S} {x : Int64} (h : MU τ) : R1 (g_Mo_pass x τ) (fun _ t => MU t) := by
  rcases h with ⟨p, q, h⟩ | h
  · have hq : p ≤ q ∧ q ≤ 3000 := ⟨h.2.2.2.1, h.2.2.2.2⟩
    by_cases c : x < 0 ∨ lN (q - p) < x
    · exact ⟨_, _, pa_bad h (Or.inr c), Or.inr (by rw [fi_at]; decide)⟩
    · obtain ⟨n, hn, rfl⟩ := in_pos (d := q - p) (by omega) c
      exact ⟨_, _, pa_ok h (by omega), Or.inl ⟨_, _, RU_1' h (by omega)⟩⟩
  · exact R1_m (R1mp h) (fun _ t _ k => Or.inr k.1)
theorem MU_fi {τ : am_S} {j : Nat} {v : Int32} (h : MU τ) (h6 : j ≠ 6) (h7 : j ≠ 7) (h8 : j ≠ 8) : MU (am_fi τ 0 j v) := by
  rcases h with ⟨p, q, a, b, c, d⟩ | h
  · exact Or.inl ⟨p, q, (fi_no (Or.inl h6.symm)).trans a, (fi_no (Or.inl h7.symm)).trans b, (fi_no (Or.inl h8.symm)).trans c, d⟩
  · exact Or.inr (by rw [fi_no (Or.inl h8.symm)]; exact h)
theorem l208_0 {x1 x7 : Int32} {τ : am_S} (h : MU τ) : R1 (g_Mo_readLines_208 x1 x7 0 τ) (fun y _ => y = 0) := by
  unfold g_Mo_readLines_208 g_Mo_readLines_305
  refine R1_b (mu_p h) (fun _ t1 _ h1 => ?_)
  refine R1_b (mu_u (m := 1) h1 (by omega)) (fun v2 t2 _ h2 => ?_)
  refine R1_b (mu_u (m := 1) (MU_fi h2 (by decide) (by decide) (by decide)) (by omega)) (fun v3 t3 _ h3 => ?_)
  refine R1_b (mu_u (m := 1) (MU_fi h3 (by decide) (by decide) (by decide)) (by omega)) (fun v4 t4 _ h4 => ?_)
  refine R1_b (mu_p (MU_fi (MU_fi h4 (by decide) (by decide) (by decide)) (by decide) (by decide) (by decide))) (fun _ t5 _ h5 => ?_)
  rw [if_pos rfl]
  exact l306_0
theorem l186_0 {x1 x7 : Int32} {τ : am_S} (h : MU τ) : R1 (g_Mo_readLines_186 x1 x7 0 τ) (fun y _ => y = 0) := by
  unfold g_Mo_readLines_186 g_Mo_readLines_207
  refine R1_b (mu_u (m := 1) h (by omega)) (fun v t _ h1 => ?_)
  rw [if_pos rfl]
  simp only [ite_self]
  exact l208_0 h1
theorem l122_0 {x1 : Int32} {τ : am_S} (h : MU τ) : R1 (g_Mo_readLines_122 x1 0 τ) (fun y _ => y = 0) := by
  unfold g_Mo_readLines_122 g_Mo_readLines_159
  refine R1_b (mu_u (m := 4) h (by omega)) (fun v t _ h1 => ?_)
  rw [if_pos rfl]
  simp only [ite_self]
  exact R1_p rfl
theorem l100_0 {x1 : Int32} {τ : am_S} (h : MU τ) : R1 (g_Mo_readLines_100 x1 0 τ) (fun y _ => y = 0) := by
  unfold g_Mo_readLines_100 g_Mo_readLines_121
  refine R1_b (mu_u (m := 1) h (by omega)) (fun v t _ h1 => ?_)
  rw [if_pos rfl]
  simp only [ite_self]
  exact l122_0 h1
theorem l76_0 {x1 : Int32} {τ : am_S} (h : MU τ) : R1 (g_Mo_readLines_76 x1 0 τ) (fun y _ => y = 0) := by
  unfold g_Mo_readLines_76 g_Mo_readLines_99
  refine R1_b (mu_u (m := 1) h (by omega)) (fun v t _ h1 => ?_)
  rw [if_pos rfl]
  simp only [ite_self]
  exact l100_0 h1
theorem GB_mu {σ τ : am_S} {p q : Nat} (h : GB σ τ p q) : MU τ := h.elim (fun ⟨_, _, G⟩ => Or.inl ⟨_, _, G.2.1⟩) (fun b => Or.inr b.2)
def HW : List (Nat × Nat) := [(49, 8), (49, 9), (49, 10), (49, 11), (51, 1), (51, 3)]
def HM : List (Nat × Nat) := [(0, 50), (0, 51), (0, 52), (0, 53), (0, 6), (0, 8)]
theorem hd_l {σ τ : am_S} {p q : Nat} {x1 x7 : Int32} {F : Int32 → am_S → Option (Int32 × am_S)} {Q : Int32 → am_S → Int32 → am_S → Prop} (hG : GB σ τ p q)
    (hno : ∀ s M, R1 M (fun y _ => y = 0) → R2 (F 0 s) M Q) (hyes : ∀ s t p' lr fc op, p ≤ p' → RG 51 s t p' q → LH s t lr fc op → FR HW [] σ s → FR HM [] τ t → R2 (F 1 s) (g_Mo_readLines_306 x1 x7 1 t) Q) : R2 (am_bd (g_Li_readHead σ) F) (am_bd (g_Mo_u 1 τ) fun v28 σ28 => if (lg_cmp v28 1) = 0 then g_Mo_readLines_186 x1 x7 1 σ28 else g_Mo_readLines_186 x1 x7 0 σ28) Q := by
  unfold g_Li_readHead g_Li_readHead_26 g_Li_readHead_141 g_Li_readHead_142
  obtain ⟨v1, s1, w1, t1, e1, e1', rfl, ⟨c1, hc1, rfl⟩, f1, g1, G1⟩ := gbu (m := 1) hG (by omega) (by omega)
  rw [show g_Cu_number 51 1 σ = _ from e1, show g_Mo_u 1 τ = _ from e1', bd_t, bd_t]
  by_cases q1 : lg_cmp (lN c1) 1 = 0
  · rw [if_pos q1, if_pos q1]
    unfold g_Mo_readLines_186 g_Mo_readLines_207
    obtain ⟨v2, s2, w2, t2, e2, e2', rfl, ⟨c2, hc2, rfl⟩, f2, g2, G2⟩ := gbu (m := 1) G1 (by omega) (by omega)
    rw [show g_Cu_number 51 1 s1 = _ from e2, show g_Mo_u 1 t1 = _ from e2', bd_t, bd_t]
    by_cases q2 : lg_cmp (lN c2) 1 = 0
    · rw [if_pos q2, if_pos q2, if_neg i10]
      unfold g_Mo_readLines_208 g_Mo_readLines_305
      obtain ⟨_, s3, _, t3, e3, e3', f3, g3, G3, _⟩ := gbs (x := 1) G2
      rw [e3, e3', bd_t, bd_t]
      obtain ⟨v4, s4, w4, t4, e4, e4', rfl, ⟨c4, hc4, rfl⟩, f4, g4, G4⟩ := gbu (m := 1) G3 (by omega) (by omega)
      rw [show g_Cu_number 51 1 s3 = _ from e4, show g_Mo_u 1 t3 = _ from e4', bd_t, bd_t]
      have fa : FR [(49, 8)] [] s4 (am_fi s4 49 8 (lN c4).toInt32.toInt8.toInt32) := fr_fi fr_rf (by simp)
      have ga : FR [(0, 52)] [] t4 (am_fi t4 0 52 (lN c4).toInt32.toInt8.toInt32) := fr_fi fr_rf (by simp)
      have eA : (am_fi s4 49 8 (lN c4).toInt32.toInt8.toInt32).1.1 49 8 = (am_fi t4 0 52 (lN c4).toInt32.toInt8.toInt32).1.1 0 52 := by rw [fi_at, fi_at]
      obtain ⟨v5, s5, w5, t5, e5, e5', rfl, ⟨c5, hc5, rfl⟩, f5, g5, G5⟩ := gbu (m := 1) (GB_fr G4 fa ga (by decide)) (by omega) (by omega)
      rw [show g_Cu_number 51 1 _ = _ from e5, show g_Mo_u 1 _ = _ from e5', bd_t, bd_t, lN_i]
      have fb : FR [(49, 9)] [] s5 (am_fi s5 49 9 (nI c5)) := fr_fi fr_rf (by simp)
      have gb : FR [(0, 53)] [] t5 (am_fi t5 0 53 (nI c5)) := fr_fi fr_rf (by simp)
      obtain ⟨v6, s6, w6, t6, e6, e6', rfl, ⟨c6, hc6, rfl⟩, f6, g6, G6⟩ := gbu (m := 1) (GB_fr G5 fb gb (by decide)) (by omega) (by omega)
      rw [show g_Cu_number 51 1 _ = _ from e6, show g_Mo_u 1 _ = _ from e6', bd_t, bd_t, lN_i, sub1 (by omega)]
      have fc : FR [(49, 10), (49, 11)] [] s6 (am_fi (am_fi s6 49 10 (nI c6)) 49 11 (s6.1.1 51 1)) := fr_fi (fr_fi fr_rf (by simp)) (by simp)
      have gc : FR [(0, 50), (0, 51)] [] t6 (am_fi (am_fi t6 0 50 (nI c6)) 0 51 (t6.1.1 0 6)) := fr_fi (fr_fi fr_rf (by simp)) (by simp)
      have G6' := GB_fr G6 fc gc (by decide)
      obtain ⟨_, s7, _, t7, e7, e7', f7, g7, G7, hR⟩ := gbs (x := (nI c6).toInt64 - 1) G6'
      rw [e7, e7', bd_t, bd_t, if_neg i10]
      have S9 : s7.1.1 49 9 = nI c5 := by rw [fr_i f7 (by decide), fr_i fc (by decide), fr_i f6 (by decide), fi_at]
      have S10 : s7.1.1 49 10 = nI c6 := by rw [fr_i f7 (by decide), fi_no (Or.inl (by decide)), fi_at]
      have T53 : t7.1.1 0 53 = nI c5 := by rw [fr_i g7 (by decide), fr_i gc (by decide), fr_i g6 (by decide), fi_at]
      have T50 : t7.1.1 0 50 = nI c6 := by rw [fr_i g7 (by decide), fi_no (Or.inl (by decide)), fi_at]
      rw [S9, S10, T53, T50]
      have S8 : s7.1.1 49 8 = t7.1.1 0 52 := by
        rw [fr_i f7 (by decide), fr_i fc (by decide), fr_i f6 (by decide), fr_i fb (by decide), fr_i f5 (by decide), eA, fr_i g7 (by decide), fr_i gc (by decide), fr_i g6 (by decide), fr_i gb (by decide), fr_i g5 (by decide)]
      rcases G7 with ⟨p7, hp7, G7⟩ | b7
      · rw [if_pos (RG_3 G7), if_pos (RG_8 G7), nI_l (by omega)]
        by_cases z9 : c5 = 0
        · rw [if_pos (show nI c5 = 0 from z9 ▸ rfl), if_neg (show ¬ 0 < nI c5 by rw [z9]; decide), show z01 0 = true from by decide, gd_t, bd_t]
          exact hno _ _ l306_0
        · rw [if_neg (nI_ne0 (n := c5) (by omega) (by omega)), if_pos (show 0 < nI c5 from nI_lt (a := 0) (by omega) (by omega))]
          obtain ⟨yi, ti, ei, rfl, ki⟩ := mi_1 (σ := t7) (x := lN c6) (a := 10) (b := 200)
          rw [ei, bd_t]
          rcases ki with ⟨rfl, ki⟩ | ⟨rfl, ki⟩
          · have k10 : ¬ c6 < 10 := fun z => ki.1 ((lN_lt (b := 10) (by omega) (by omega)).mpr z)
            have k200 : ¬ 200 < c6 := fun z => ki.2 ((lN_lt (a := 200) (by omega) (by omega)).mpr z)
            rw [if_neg i10, if_neg (show ¬ nI c6 < 10 from nI_nlt (b := 10) (by omega) (by omega)), if_neg (show ¬ 200 < nI c6 from nI_nlt (a := 200) (by omega) (by omega)), show z01 1 = true from by decide, gd_t, bd_t]
            -- where the operands' numbers stand
            have hG6 : ∃ p6, p ≤ p6 ∧ RG 51 (am_fi (am_fi s6 49 10 (nI c6)) 49 11 (s6.1.1 51 1)) (am_fi (am_fi t6 0 50 (nI c6)) 0 51 (t6.1.1 0 6)) p6 q := by
              rcases G6' with h | b
              · exact h
              · exfalso
                rw [bsk b.1] at e7
                cases e7
                exact absurd (RG_3 G7) (by rw [fi_at]; decide)
            obtain ⟨p6, hp6, G6''⟩ := hG6
            obtain ⟨n, en, hn⟩ := hR p6 G6'' (RG_3 G7)
            have hq := RG_q G7
            have hn' : n = c6 - 1 := by
              rw [nI_l (by omega)] at en
              have e2 : lN c6 - 1 = lN (c6 - 1) := lN_sub (b := 1) (by omega)
              rw [e2] at en
              exact ((lN_eq (by omega) (by omega)).mp en).symm
            have a51 : s6.1.1 51 1 = nI p6 := by
              have := G6''.1.1
              rw [fi_no (Or.inl (by decide)), fi_no (Or.inl (by decide))] at this
              exact this
            have a06 : t6.1.1 0 6 = nI p6 := by
              have := G6''.2.1.1
              rw [fi_no (Or.inl (by decide)), fi_no (Or.inl (by decide))] at this
              exact this
            have fA : FR HW [] σ s7 := fr_tr (fr_up f1 (by decide) (fun _ h => h)) (fr_tr (fr_up f2 (by decide) (fun _ h => h)) (fr_tr (fr_up f3 (by decide) (fun _ h => h)) (fr_tr (fr_up f4 (by decide) (fun _ h => h)) (fr_tr (fr_up fa (by decide) (fun _ h => h)) (fr_tr (fr_up f5 (by decide) (fun _ h => h)) (fr_tr (fr_up fb (by decide) (fun _ h => h)) (fr_tr (fr_up f6 (by decide) (fun _ h => h)) (fr_tr (fr_up fc (by decide) (fun _ h => h)) (fr_up f7 (by decide) (fun _ h => h))))))))))
            have gA : FR HM [] τ ti := fr_tr (fr_up g1 (by decide) (fun _ h => h)) (fr_tr (fr_up g2 (by decide) (fun _ h => h)) (fr_tr (fr_up g3 (by decide) (fun _ h => h)) (fr_tr (fr_up g4 (by decide) (fun _ h => h)) (fr_tr (fr_up ga (by decide) (fun _ h => h)) (fr_tr (fr_up g5 (by decide) (fun _ h => h)) (fr_tr (fr_up gb (by decide) (fun _ h => h)) (fr_tr (fr_up g6 (by decide) (fun _ h => h)) (fr_tr (fr_up gc (by decide) (fun _ h => h)) (fr_up g7 (by decide) (fun _ h => h))))))))))
            refine hyes s7 ti p7 c5 c6 p6 hp7 G7 ⟨S8, S9, T53, by omega, by omega, S10, T50, by omega, by omega, ?_, ?_, by omega⟩ fA gA
            · rw [fr_i f7 (by decide), fi_at, a51]
            · rw [fr_i g7 (by decide), fi_at, a06]
          · rw [if_pos rfl]
            have hx : ∀ (Y : Option (Int32 × am_S)), R2 (am_bd (if nI c6 < 10 then am_gd (z01 0) (some ((0 : Int32), s7)) else if 200 < nI c6 then am_gd (z01 0) (some (0, s7)) else Y) F) (g_Mo_readLines_306 x1 x7 0 ti) Q := fun Y => by
              have k2 : c6 < 10 ∨ 200 < c6 := ki.imp (fun z => (lN_lt (b := 10) (by omega) (by omega)).mp z) (fun z => (lN_lt (a := 200) (by omega) (by omega)).mp z)
              rcases k2 with k2 | k2
              · rw [if_pos (show nI c6 < 10 from nI_lt (b := 10) k2 (by omega)), show z01 0 = true from by decide, gd_t, bd_t]
                exact hno _ _ l306_0
              · rw [if_neg (show ¬ nI c6 < 10 from nI_nlt (b := 10) (by omega) (by omega)), if_pos (show 200 < nI c6 from nI_lt (a := 200) k2 (by omega)), show z01 0 = true from by decide, gd_t, bd_t]
                exact hno _ _ l306_0
            exact hx _
      · rw [if_neg b7.1, if_neg b7.2, show z01 0 = true from by decide, gd_t, bd_t]
        exact hno _ _ l306_0
    · rw [if_neg q2, if_neg q2, bd_t]
      exact hno _ _ (l208_0 (GB_mu G2))
  · rw [if_neg q1, if_neg q1, bd_t]
    exact hno _ _ (l186_0 (GB_mu G1))
