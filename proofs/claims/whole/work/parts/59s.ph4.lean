/-! the lines of all units, both sides -/
def WB (σ τ : am_S) (wb : Nat → Nat) (u : Nat) : Prop := ∀ v, v < u → (wb v ≤ wb (v + 1) ∧ wb (v + 1) ≤ 400) ∧ σ.2.1 45 v = nI (wb v) ∧ σ.2.1 46 v = nI (wb (v + 1)) ∧ τ.2.1 28 v = nI (wb v)
def ST4 (σ τ : am_S) (N U : Nat) (fs A Z : Nat → Nat) (u : Nat) (wb : Nat → Nat) : Prop := EV σ τ N U fs A Z ∧ RW σ τ (wb u) ∧ (∀ v, v < u → FU σ τ v) ∧ WB σ τ wb u
def LV (N U : Nat) (fs A Z : Nat → Nat) (x : Int32) (s : am_S) (y : Int32) (t : am_S) : Prop := (x = 0 ∧ y = 0) ∨ (x = 1 ∧ y = 1 ∧ ∃ wb, ST4 s t N U fs A Z U wb ∧ t.2.1 28 U = nI (wb U))
theorem al_0 {n U : Nat} {x : Int32} {t : am_S} (hU : U ≤ 4) (h : t.1.1 0 21 = nI U) : g_Mo_readAllLines_4 (n + 1) 0 x t = some (0, am_ai t 28 U (t.1.1 0 38)) := by
  unfold g_Mo_readAllLines_4 g_Mo_readAllLines_68
  rw [if_pos rfl, h, inb_nI (by omega) (by decide), nI_clamp (by omega)]
  simp only [ite_self]
  rfl
theorem FU_fr {W W' : List (Nat × Nat)} {A A' : List Nat} {σ τ s t : am_S} {v : Nat} (h : FU σ τ v) (f : FR W A σ s) (g : FR W' A' τ t) (n : (A.contains 1 || A.contains 47 || A.contains 48 || A'.contains 25 || A'.contains 26) = false) : FU s t v := by
  simp only [Bool.or_eq_false_iff] at n
  obtain ⟨⟨⟨⟨n1, n2⟩, n3⟩, n4⟩, n5⟩ := n
  unfold FU FX
  rw [fr_b f n1, fr_b f n2, fr_b f n3, fr_b g n4, fr_b g n5]
  exact h
theorem al_l {N U : Nat} {fs A Z : Nat → Nat} : ∀ j u, u + j = U → ∀ (σ τ : am_S) (wb : Nat → Nat), ST4 σ τ N U fs A Z u wb → ∀ n n', j + 1 < n → j + 1 < n' → R2 (g_Li_read_9 n (nI u) σ) (g_Mo_readAllLines_4 n' 1 (nI u) τ) (LV N U fs A Z) := by
  intro j
  induction j with
  | zero =>
    intro u hu σ τ wb h n n' hn hn'
    obtain ⟨n, rfl⟩ : ∃ z, n = z + 1 := ⟨n - 1, by omega⟩
    obtain ⟨n', rfl⟩ : ∃ z, n' = z + 1 := ⟨n' - 1, by omega⟩
    obtain rfl : u = U := by omega
    have hu4 := EV_u4 h.1
    unfold g_Li_read_9 g_Mo_readAllLines_4 g_Mo_readAllLines_68
    rw [EV_u h.1, EV_v h.1, if_neg (nI_nlt (Nat.le_refl _) (by omega)), if_neg (nI_nlt (Nat.le_refl _) (by omega)), inb_nI (by omega) (by decide), nI_clamp (by omega), h.2.1.2.2.1]
    have g0 : FR [] [28] τ (am_ai τ 28 u (nI (wb u))) := fr_ai fr_rf (by simp)
    have f0 : FR [] [] σ σ := fr_rf
    refine R2_p (Or.inr ⟨rfl, rfl, wb, ⟨EV_fr h.1 f0 g0 (by decide) (by decide), RW_fr h.2.1 f0 g0 (by decide), fun v hv => FU_fr (h.2.2.1 v hv) f0 g0 (by decide), fun v hv => ?_⟩, ai_at⟩)
    obtain ⟨q1, q2, q3, q4⟩ := h.2.2.2 v hv
    exact ⟨q1, q2, q3, by rw [ai_no (Or.inr (by omega))]; exact q4⟩
  | succ j ih =>
    intro u hu σ τ wb h n n' hn hn'
    obtain ⟨n, rfl⟩ : ∃ z, n = z + 2 := ⟨n - 2, by omega⟩
    obtain ⟨n', rfl⟩ : ∃ z, n' = z + 2 := ⟨n' - 2, by omega⟩
    obtain ⟨hE, hR, hF, hB⟩ := h
    have hu4 := EV_u4 hE
    have hl := EV_l hE
    have huU : u < U := by omega
    have hf := EV_fl hE u huU
    obtain ⟨q1, q2, q3, q4, q5, q6⟩ := EV_un hE u huU
    obtain ⟨q5, q7⟩ := q5 hf
    obtain ⟨uf, huf, Ef⟩ := EV_en hE (fs u) hf
    have huf' : uf = u := (nI_eq (by omega) (by omega)).mp (Ef.1.symm.trans q5)
    subst huf'
    have hUS := Ef.2.2.2.2.2.1.2.2 q7 0 (by decide)
    unfold g_Li_read_9 g_Ro_begin g_Li_read_65 g_Ro_end
    rw [EV_u hE, if_pos (nI_lt (by omega) (by omega)), inb_nI (show uf < 4 by omega) (by decide), nI_clamp (show uf < 2 ^ 31 by omega), hR.2.1]
    simp only [gd_t]
    rw [bd_t, show nI uf * 4 + 0 = nI (4 * uf + 0) from (by rw [show nI uf * 4 = nI (4 * uf) from (pk_mul uf 4).trans (by rw [Nat.mul_comm])]; exact nI_add _ 0), inb_nI (show 4 * uf + 0 < 16 by omega) (by decide), nI_clamp (show 4 * uf + 0 < 2 ^ 31 by omega)]
    simp only [gd_t]
    have f0 : FR [] [45, 47] σ (am_ai (am_ai σ 45 uf (nI (wb uf))) 47 uf 0) := fr_ai (fr_ai fr_rf (by simp)) (by simp)
    have g0 : FR [] [28, 25] τ (am_ai (am_ai τ 28 uf (nI (wb uf))) 25 uf 0) := fr_ai (fr_ai fr_rf (by simp)) (by simp)
    have kC : KEL [(47, uf), (48, 30 * uf)] σ (am_ai (am_ai σ 45 uf (nI (wb uf))) 47 uf 0) := KEL_nr (A := [(45, 0), (47, uf)]) (NR_ai (NR_ai NR_rf (L := 0) (by simp) (by omega)) (L := uf) (by simp) (Nat.le_refl _)) (by simp)
    have kM : KEL [(25, uf), (26, 30 * uf)] τ (am_ai (am_ai τ 28 uf (nI (wb uf))) 25 uf 0) := KEL_nr (A := [(28, 0), (25, uf)]) (NR_ai (NR_ai NR_rf (L := 0) (by simp) (by omega)) (L := uf) (by simp) (Nat.le_refl _)) (by simp)
    have hE0 := EV_fr hE f0 g0 (by decide) (by decide)
    have hR0 := RW_fr hR f0 g0 (by decide)
    rw [show (am_ai (am_ai σ 45 uf (nI (wb uf))) 47 uf 0).2.1 19 (4 * uf + 0) = τ.2.1 20 (11 * fs uf + (7 + 0)) from (by rw [ai_r (by decide), ai_r (by decide)]; exact hUS.1), show nI uf + 1 = nI (uf + 1) from nI_add uf 1]
    rw [g_Mo_readAllLines_4, EV_v hE, if_pos (nI_lt (by omega) (by omega)), if_neg i10, inb_nI (show uf < 5 by omega) (by decide), inb_nI (show uf < 4 by omega) (by decide), nI_clamp (show uf < 2 ^ 31 by omega), hR.2.2.1]
    simp only [gd_t]
    rw [show (am_ai (am_ai τ 28 uf (nI (wb uf))) 25 uf 0).2.1 14 uf = nI (fs uf) from (by rw [ai_r (by decide), ai_r (by decide)]; exact q3)]
    have e20 : (am_ai (am_ai τ 28 uf (nI (wb uf))) 25 uf 0).2.1 20 = τ.2.1 20 := by rw [ai_r (by decide), ai_r (by decide)]
    rw [show g_Mo_has (nI (fs uf)) 7 (am_ai (am_ai τ 28 uf (nI (wb uf))) 25 uf 0) = _ from ha_m (k := 7) (by omega) (by decide) (by rw [e20]; exact hUS.2.1), bd_t, e20]
    unfold g_Mo_readAllLines_56 g_Mo_readAllLines_61
    rw [show nI uf + 1 = nI (uf + 1) from nI_add uf 1]
    -- the next unit
    have next : ∀ (s t : am_S) (w' : Nat), FR LW [41, 42, 43, 44, 45, 47, 48, 50] σ s → FR MW [25, 26, 27, 28, 29, 30, 31, 32] τ t → wb uf ≤ w' → RW s t w' → FU s t uf → KEL [(47, uf), (48, 30 * uf)] σ s → KEL [(25, uf), (26, 30 * uf)] τ t → s.2.1 45 = (am_ai (am_ai σ 45 uf (nI (wb uf))) 47 uf 0).2.1 45 → t.2.1 28 = (am_ai (am_ai τ 28 uf (nI (wb uf))) 25 uf 0).2.1 28 → R2 (g_Li_read_9 (n + 1) (nI (uf + 1)) (am_ai s 46 uf (s.1.1 40 8))) (g_Mo_readAllLines_4 (n' + 1) 1 (nI (uf + 1)) t) (LV N U fs A Z) := by
      intro s t w' f g hmo hw hfu k1 k2 e45 e28
      have f' : FR LW [41, 42, 43, 44, 45, 46, 47, 48, 50] σ (am_ai s 46 uf (s.1.1 40 8)) := fr_ai (fr_up f (fun _ h => h) (by decide)) (by simp)
      have f46 : FR [] [46] s (am_ai s 46 uf (s.1.1 40 8)) := fr_ai fr_rf (by simp)
      have b1 : s.2.1 1 = σ.2.1 1 := fr_b f (by decide)
      refine ih (uf + 1) (by omega) _ t (bn' wb uf w') ⟨EV_fr hE f' g (by decide) (by decide), ?_, fun v hv => ?_, fun v hv => ?_⟩ (n + 1) (n' + 1) (by omega) (by omega)
      · rw [show bn' wb uf w' (uf + 1) = w' from if_pos rfl]
        exact RW_fr hw f46 (fr_rf (W := []) (A := [])) (by decide)
      · by_cases cv : v = uf
        · rw [cv]
          exact FU_fr hfu f46 (fr_rf (W := []) (A := [])) (by decide)
        · exact FU_fr (FU_up (hF v (by omega)) (show v < uf by omega) k1 k2 b1) f46 (fr_rf (W := []) (A := [])) (by decide)
      · by_cases cv : v = uf
        · subst cv
          rw [show bn' wb v w' (v + 1) = w' from if_pos rfl, show bn' wb v w' v = wb v from if_neg (by omega)]
          refine ⟨⟨hmo, hw.1⟩, ?_, ?_, ?_⟩
          · rw [ai_r (by decide), e45, ai_r (by decide), ai_at]
          · rw [ai_at, hw.2.1]
          · rw [e28, ai_r (by decide), ai_at]
        · rw [show bn' wb uf w' (v + 1) = wb (v + 1) from if_neg (by omega), show bn' wb uf w' v = wb v from if_neg (by omega)]
          obtain ⟨r1, r2, r3, r4⟩ := hB v (by omega)
          refine ⟨r1, ?_, ?_, ?_⟩
          · rw [ai_r (by decide), e45, ai_r (by decide), ai_no (Or.inr cv)]; exact r2
          · rw [ai_no (Or.inr cv), fr_b f (by decide)]; exact r3
          · rw [e28, ai_r (by decide), ai_no (Or.inr cv)]; exact r4
    by_cases cz : τ.2.1 20 (11 * fs uf + (7 + 0)) = 0
    · rw [if_pos cz, if_pos cz, bd_t, if_pos rfl]
      refine next _ _ (wb uf) (fr_up f0 (fun _ h => by cases h) (by decide)) (fr_up g0 (fun _ h => by cases h) (by decide)) (Nat.le_refl _) hR0 ⟨0, by omega, ai_at, ai_at, fun k hk => absurd hk (by omega)⟩ kC kM rfl rfl
    · rw [if_neg cz, if_neg cz, bd_t, if_neg i10]
      have hx := rt_l (u := uf) (w := wb uf) (f := fs uf) (x := τ.2.2 21 (11 * fs uf + 7)) (EV_xc hE0) (EV_xm hE0) (EV_b hE0) (by omega) (by omega) (by rw [ai_r (by decide), ai_r (by decide)]; exact q3) rfl ai_at hR0
      obtain ⟨x1, s1, y1, t1, e1, e1', k1, k2⟩ := hx
      have f1 := f_Li_readTable e1
      have g1 := f_Mo_readLines e1'
      rw [show (am_ai (am_ai σ 45 uf (nI (wb uf))) 47 uf 0).2.2 20 (4 * uf + 0) = τ.2.2 21 (11 * fs uf + 7) from hUS.2.2.1 cz, e1, e1']
      simp only [bd_t]
      rcases k1 with ⟨rfl, rfl⟩ | ⟨rfl, rfl, ⟨w', hmo, hw'⟩, hfu⟩
      · rw [if_pos rfl, if_pos rfl, al_0 hu4 ((fr_i g1 (by decide)).trans (EV_v hE0))]
        exact R2_p (Or.inl ⟨rfl, rfl⟩)
      · rw [if_neg i10, if_neg i10]
        obtain ⟨k3, k4⟩ := k2 rfl
        exact next s1 t1 w' (fr_tr (fr_up f0 (fun _ h => by cases h) (by decide)) (fr_up f1 (by decide) (by decide))) (fr_tr (fr_up g0 (fun _ h => by cases h) (by decide)) (fr_up g1 (by decide) (by decide))) hmo hw' hfu (KEL_tr kC k3) (KEL_tr kM k4) (fr_b f1 (by decide)) (fr_b g1 (by decide))
/-- phase 4 -/
theorem ph4 {σ τ : am_S} {N U : Nat} {fs A Z : Nat → Nat} (h : EV σ τ N U fs A Z) (h38 : τ.1.1 0 38 = 0) : R2 (g_Li_read σ) (g_Mo_readAllLines τ) (LV N U fs A Z) := by
  unfold g_Li_read g_Ro_forgetAll g_Mo_readAllLines
  rw [bd_t]
  have f0 : FR [(40, 8)] [] σ (am_fi σ 40 8 0) := fr_fi fr_rf (by simp)
  have hu4 := EV_u4 h
  exact al_l U 0 (by omega) _ τ (fun _ => 0) ⟨EV_fr h f0 (fr_rf (W := []) (A := [])) (by decide) (by decide), ⟨Nat.zero_le _, fi_at, h38, fun i hi => absurd hi (Nat.not_lt_zero i)⟩, fun v hv => absurd hv (by omega), fun v hv => absurd hv (by omega)⟩ 4000 4000 (by omega) (by omega)
