/-! symbols, both sides -/
theorem a15 : ∀ n, n < 256 → ((lN n &&& 15 = 2) ↔ n % 16 = 2) := by decide +kernel
def isFn (B : Nat → Int32) (p : Nat) : Prop := by8 B (p + 4) % 16 = 2
theorem a15i (B : Nat → Int32) (j : Nat) : B j &&& 15 = 2 ↔ by8 B j % 16 = 2 := by
  rw [pk_and (B j) (m := 15) 4 (by decide)]
  unfold by8
  rw [show (2 : Int32) = nI 2 from rfl, nI_eq (by omega) (by omega)]
  omega
/-- a symbol of the class -/
def SY1 (σ : am_S) (A Z : Nat → Nat) (i : Nat) : Prop := (∃ b, txt (σ.2.1 1) (A 9) (A 9 + Z 9) (lN (num (σ.2.1 1) (A 8 + 24 * i) 4)) = some b ∧ σ.2.1 53 i = nI b) ∧ (σ.2.1 54 i = 0 ↔ ¬ isFn (σ.2.1 1) (A 8 + 24 * i)) ∧ σ.2.2 55 i = lN (num (σ.2.1 1) (A 8 + 24 * i + 8) 8) ∧ σ.2.2 56 i = lN (num (σ.2.1 1) (A 8 + 24 * i + 8) 8) + lN (num (σ.2.1 1) (A 8 + 24 * i + 16) 8)
theorem nb0 : vp_nar .boolean 0 = 0 := by decide
theorem nb1 : vp_nar .boolean 1 = 1 := by decide
theorem so_c {σ : am_S} {A Z : Nat → Nat} {i : Nat} (hS : SXc σ A Z) (hi : i < 60) (h6 : σ.1.1 52 6 = nI i) (hC : CU σ 57 (A 8 + 24 * i) (A 8 + Z 8) false) (hz : 24 * i + 24 ≤ Z 8) : R1 (g_Sy_readOne σ) (fun x s => FR [(9, 1), (9, 2), (9, 3), (57, 1), (57, 3)] [53, 54, 55, 56] σ s ∧ NR [(53, i), (54, i), (55, i), (56, i)] σ s ∧ ((x = 0 ∧ txt (σ.2.1 1) (A 9) (A 9 + Z 9) (lN (num (σ.2.1 1) (A 8 + 24 * i) 4)) = none) ∨ (x = 1 ∧ SY1 s A Z i ∧ CU s 57 (A 8 + 24 * (i + 1)) (A 8 + Z 8) false))) := by
  obtain ⟨h86, h87, hle8⟩ := hS 8 (by decide)
  unfold g_Sy_readOne g_Sy_readOne_58 g_Sy_readOne_142 g_Sy_readOne_143
  refine R1_b (cn_1 (m := 4) hC (by omega) (by omega)) (fun v1 s1 e1 k1 => ?_)
  have f1 := f_Cu_number e1
  obtain ⟨rfl, C1, _, _⟩ := k1
  have S1 := SXc_fr hS f1
  refine R1_b (tac (s := 9) S1 (by decide)) (fun v2 s2 e2 k2 => ?_)
  obtain ⟨f2, rfl⟩ := k2
  rw [show s1.2.1 1 = σ.2.1 1 from fr_b f1 (by decide)]
  have C2 : CU s2 57 (A 8 + 24 * i + 4) (A 8 + Z 8) false := CU_fr C1 f2 (by decide) (by decide) (by decide)
  have s26 : s2.1.1 52 6 = nI i := (fr_i f2 (by decide)).trans ((fr_i f1 (by decide)).trans h6)
  rw [h6, inb_nI hi (by decide), gd_t, nI_clamp (by omega), s26]
  generalize hx : oN (txt (σ.2.1 1) (A 9) (A 9 + Z 9) (lN (num (σ.2.1 1) (A 8 + 24 * i) 4))) = nmv
  have fa : FR [] [53] s2 (am_ai s2 53 i nmv) := fr_ai fr_rf (by simp)
  refine R1_b (cn_1 (m := 1) (show CU (am_ai s2 53 i nmv) 57 (A 8 + 24 * i + 4) (A 8 + Z 8) false from C2) (by omega) (by omega)) (fun v3 s3 e3 k3 => ?_)
  have f3 := f_Cu_number e3
  obtain ⟨rfl, C3, _, _⟩ := k3
  have B3 : (am_ai s2 53 i nmv).2.1 1 = σ.2.1 1 := (fr_b fa (by decide)).trans ((fr_b f2 (by decide)).trans (fr_b f1 (by decide)))
  rw [B3, num1]
  have F3 : FR [(9, 1), (9, 2), (9, 3), (57, 1), (57, 3)] [53, 54, 55, 56] σ s3 := fr_tr (fr_up f1 (by decide) (fun _ h => by cases h)) (fr_tr (fr_up f2 (by decide) (fun _ h => by cases h)) (fr_tr (fr_up fa (fun _ h => by cases h) (by decide)) (fr_up f3 (by decide) (fun _ h => by cases h))))
  have N3 : NR [(53, i), (54, i), (55, i), (56, i)] σ s3 := NR_fr (NR_ai (NR_fr (NR_fr NR_rf f1) f2) (L := i) (by simp) (Nat.le_refl _)) f3
  have h53 : s3.2.1 53 i = nmv := by rw [fr_b f3 (by decide), ai_at]
  have rest : ∀ y : Int32, (y = 0 ∨ y = 1) → (y = 0 ↔ ¬ isFn (σ.2.1 1) (A 8 + 24 * i)) → R1 (am_gd true (am_bd (g_Cu_skip 57 3 (am_ai s3 54 i (vp_nar .boolean y))) fun _ σ5 => am_bd (g_Cu_number 57 8 σ5) fun v13 σ13 => am_gd (inb (σ5.1.1 52 6) 60) (am_gd (inb (σ13.1.1 52 6) 60) (am_bd (g_Cu_number 57 8 (am_al σ13 55 (σ5.1.1 52 6).toNatClampNeg v13)) fun v27 σ27 => am_gd (inb (σ13.1.1 52 6) 60) (if (σ27.1.1 57 3) = 0 then am_gd (inb (σ27.1.1 52 6) 60) (if ((am_al σ27 56 (σ13.1.1 52 6).toNatClampNeg (((am_al σ13 55 (σ5.1.1 52 6).toNatClampNeg v13).2.2 55 (σ13.1.1 52 6).toNatClampNeg) + v27)).2.1 53 (σ27.1.1 52 6).toNatClampNeg) = (-1) then am_gd (z01 0) (some ((0 : Int32), am_al σ27 56 (σ13.1.1 52 6).toNatClampNeg (((am_al σ13 55 (σ5.1.1 52 6).toNatClampNeg v13).2.2 55 (σ13.1.1 52 6).toNatClampNeg) + v27))) else am_gd (z01 1) (some (1, am_al σ27 56 (σ13.1.1 52 6).toNatClampNeg (((am_al σ13 55 (σ5.1.1 52 6).toNatClampNeg v13).2.2 55 (σ13.1.1 52 6).toNatClampNeg) + v27)))) else am_gd (z01 0) (some (0, am_al σ27 56 (σ13.1.1 52 6).toNatClampNeg (((am_al σ13 55 (σ5.1.1 52 6).toNatClampNeg v13).2.2 55 (σ13.1.1 52 6).toNatClampNeg) + v27)))))))) (fun x s => FR [(9, 1), (9, 2), (9, 3), (57, 1), (57, 3)] [53, 54, 55, 56] σ s ∧ NR [(53, i), (54, i), (55, i), (56, i)] σ s ∧ ((x = 0 ∧ txt (σ.2.1 1) (A 9) (A 9 + Z 9) (lN (num (σ.2.1 1) (A 8 + 24 * i) 4)) = none) ∨ (x = 1 ∧ SY1 s A Z i ∧ CU s 57 (A 8 + 24 * (i + 1)) (A 8 + Z 8) false))) := by
    intro y hy hyf
    rw [gd_t]
    have fb : FR [] [54] s3 (am_ai s3 54 i (vp_nar .boolean y)) := fr_ai fr_rf (by simp)
    refine R1_b (cg_1 (n := 3) (show CU (am_ai s3 54 i (vp_nar .boolean y)) 57 (A 8 + 24 * i + 4 + 1) (A 8 + Z 8) false from C3) (by omega)) (fun _ s4 e4 k4 => ?_)
    have f4 := f_Cu_skip e4
    refine R1_b (cn_1 (m := 8) k4.1 (by omega) (by omega)) (fun v5 s5 e5 k5 => ?_)
    have f5 := f_Cu_number e5
    obtain ⟨rfl, C5, _, _⟩ := k5
    have s46 : s4.1.1 52 6 = nI i := (fr_i f4 (by decide)).trans ((fr_i f3 (by decide)).trans s26)
    have s56 : s5.1.1 52 6 = nI i := (fr_i f5 (by decide)).trans s46
    have B4 : s4.2.1 1 = σ.2.1 1 := (fr_b f4 (by decide)).trans ((fr_b fb (by decide)).trans (fr_b F3 (by decide)))
    rw [s46, s56, inb_nI hi (by decide), gd_t, gd_t, nI_clamp (by omega), al_at, B4]
    generalize hv5 : lN (num (σ.2.1 1) (A 8 + 24 * i + 4 + 1 + 3) 8) = v5
    have fc : FR [] [55] s5 (am_al s5 55 i v5) := fr_al fr_rf (by simp)
    refine R1_b (cn_1 (m := 8) (show CU (am_al s5 55 i v5) 57 (A 8 + 24 * i + 4 + 1 + 3 + 8) (A 8 + Z 8) false from C5) (by omega) (by omega)) (fun v6 s6 e6 k6 => ?_)
    have f6 := f_Cu_number e6
    obtain ⟨rfl, C6, _, _⟩ := k6
    have s66 : s6.1.1 52 6 = nI i := (fr_i f6 (by decide)).trans s56
    have B6 : (am_al s5 55 i v5).2.1 1 = σ.2.1 1 := (fr_b fc (by decide)).trans ((fr_b f5 (by decide)).trans B4)
    rw [gd_t, if_pos (show s6.1.1 57 3 = 0 from C6.2.2.1), s66, inb_nI hi (by decide), gd_t, nI_clamp (by omega), B6]
    generalize hv6 : v5 + lN (num (σ.2.1 1) (A 8 + 24 * i + 4 + 1 + 3 + 8) 8) = v6
    have s653 : s6.2.1 53 i = nmv := by rw [fr_b f6 (by decide), fr_b fc (by decide), fr_b f5 (by decide), fr_b f4 (by decide), fr_b fb (by decide)]; exact h53
    rw [show (am_al s6 56 i v6).2.1 53 i = nmv from s653]
    have fd : FR [] [56] s6 (am_al s6 56 i v6) := fr_al fr_rf (by simp)
    have F7 : FR [(9, 1), (9, 2), (9, 3), (57, 1), (57, 3)] [53, 54, 55, 56] σ (am_al s6 56 i v6) := fr_tr F3 (fr_tr (fr_up fb (fun _ h => by cases h) (by decide)) (fr_tr (fr_up f4 (by decide) (fun _ h => by cases h)) (fr_tr (fr_up f5 (by decide) (fun _ h => by cases h)) (fr_tr (fr_up fc (fun _ h => by cases h) (by decide)) (fr_tr (fr_up f6 (by decide) (fun _ h => by cases h)) (fr_up fd (fun _ h => by cases h) (by decide)))))))
    have N7 : NR [(53, i), (54, i), (55, i), (56, i)] σ (am_al s6 56 i v6) := NR_al (NR_fr (NR_al (NR_fr (NR_fr (NR_ai N3 (L := i) (by simp) (Nat.le_refl _)) f4) f5) (L := i) (by simp) (Nat.le_refl _)) f6) (L := i) (by simp) (Nat.le_refl _)
    have b7 : (am_al s6 56 i v6).2.1 1 = σ.2.1 1 := fr_b F7 (by decide)
    cases ht : txt (σ.2.1 1) (A 9) (A 9 + Z 9) (lN (num (σ.2.1 1) (A 8 + 24 * i) 4)) with
    | some b =>
      rw [ht] at hx
      have hle9 := (hS 9 (by decide)).2.2
      have hb := txt_lt hle9 (by omega) ht
      rw [if_neg (by rw [← hx]; exact nI_ne (by omega))]
      refine R1_p ⟨F7, N7, Or.inr ⟨rfl, ⟨⟨b, ?_, ?_⟩, ?_, ?_, ?_⟩, ?_⟩⟩
      · rw [b7]; exact ht
      · rw [show (am_al s6 56 i v6).2.1 53 i = nmv from s653, ← hx]; rfl
      · rw [b7, show (am_al s6 56 i v6).2.1 54 i = vp_nar .boolean y from (by rw [al_i, fr_b f6 (by decide), fr_b fc (by decide), fr_b f5 (by decide), fr_b f4 (by decide), ai_at]), ← hyf]
        rcases hy with rfl | rfl
        · rw [nb0]
        · rw [nb1]
      · rw [b7, al_no (Or.inl (by decide)), fr_c f6 (by decide), al_at, ← hv5]
      · rw [b7, al_at, ← hv6, ← hv5]
      · exact CU_fr C6 fd (by decide) (by decide) (by decide)
    | none =>
      rw [ht] at hx
      rw [if_pos (by rw [← hx]; rfl)]
      exact R1_p ⟨F7, N7, Or.inl ⟨rfl, rfl⟩⟩
  rw [inb_nI hi (by decide), nI_clamp (by omega)]
  have h256 := by8_lt (σ.2.1 1) (A 8 + 24 * i + 4)
  by_cases cF : lg_cmp (lN (by8 (σ.2.1 1) (A 8 + 24 * i + 4)) &&& 15) 2 = 0
  · rw [if_pos cF]
    exact rest 1 (Or.inr rfl) ⟨fun z => absurd z (by decide), fun z => absurd ((a15 _ h256).mp ((cmp_eq _ _).mp cF)) z⟩
  · rw [if_neg cF]
    exact rest 0 (Or.inl rfl) ⟨fun _ z => cF ((cmp_eq _ _).mpr ((a15 _ h256).mpr z)), fun _ => rfl⟩
theorem SY1_up {σ s : am_S} {A Z : Nat → Nat} {i j : Nat} (h : SY1 σ A Z j) (hj : j < i) (f : NR [(53, i), (54, i), (55, i), (56, i)] σ s) (hb : s.2.1 1 = σ.2.1 1) : SY1 s A Z j := by
  unfold SY1
  rw [hb, NR_i f (by simp; omega), NR_i f (by simp; omega), NR_l f (by simp; omega), NR_l f (by simp; omega)]
  exact h
def SYM (σ τ : am_S) (A Z : Nat → Nat) (n : Nat) : Prop := n ≤ 60 ∧ σ.1.1 52 6 = nI n ∧ τ.1.1 0 54 = nI n ∧ 24 * n ≤ Z 8 ∧ ∀ i, i < n → SY1 σ A Z i
theorem sy_l {A Z : Nat → Nat} {t : Nat} (ht : t ≤ 60) (hz : Z 8 = 24 * t) {B : Nat → Int32} : ∀ j i, i + j = t → ∀ σ : am_S, σ.2.1 1 = B → SXc σ A Z → σ.1.1 52 6 = nI i → CU σ 57 (A 8 + 24 * i) (A 8 + Z 8) false → (∀ k, k < i → SY1 σ A Z k) → ∀ n, j < n → R1 (g_Sy_read_55 n (nI (24 * t)) (nI i) σ) (fun x s => (x = 0 ∧ symOK B (A 8) (A 9) (A 9 + Z 9) j i = false) ∨ (x = 1 ∧ symOK B (A 8) (A 9) (A 9 + Z 9) j i = true ∧ s.1.1 52 6 = nI t ∧ ∀ k, k < t → SY1 s A Z k)) := by
  intro j
  induction j with
  | zero =>
    intro i hi σ hB hS h6 hC hY n hn
    obtain ⟨n, rfl⟩ : ∃ z, n = z + 1 := ⟨n - 1, by omega⟩
    rw [g_Sy_read_55, show (decide (¬ (24 : Nat) = 0)) = true from by decide, gd_t, show nI (24 * t) / 24 = nI (24 * t / 24) from pk_div (d := 24) (by omega) (by omega) (by omega), if_neg (nI_nlt (by omega) (by omega))]
    exact R1_p (Or.inr ⟨rfl, rfl, by rw [h6]; congr 1, fun k hk => hY k (by omega)⟩)
  | succ j ih =>
    intro i hi σ hB hS h6 hC hY n hn
    obtain ⟨n, rfl⟩ : ∃ z, n = z + 1 := ⟨n - 1, by omega⟩
    rw [g_Sy_read_55, show (decide (¬ (24 : Nat) = 0)) = true from by decide, gd_t, show nI (24 * t) / 24 = nI (24 * t / 24) from pk_div (d := 24) (by omega) (by omega) (by omega), if_pos (nI_lt (by omega) (by omega))]
    refine R1_b (so_c hS (by omega) h6 hC (by omega)) (fun x s _ k => ?_)
    obtain ⟨f, nr, k⟩ := k
    unfold symOK
    rw [← hB]
    rcases k with ⟨rfl, k⟩ | ⟨rfl, k, C'⟩
    · rw [if_pos rfl, k]
      exact R1_p (Or.inl ⟨rfl, rfl⟩)
    · rw [if_neg i10]
      obtain ⟨⟨b, hb, _⟩, _⟩ := id k
      rw [show s.2.1 1 = σ.2.1 1 from fr_b f (by decide)] at hb
      rw [hb, show s.1.1 52 6 = nI i from (fr_i f (by decide)).trans h6, show nI i + 1 = nI (i + 1) from nI_add i 1]
      have f6 : FR [(52, 6)] [] s (am_fi s 52 6 (nI (i + 1))) := fr_fi fr_rf (by simp)
      have := ih (i + 1) (by omega) (am_fi s 52 6 (nI (i + 1))) ((fr_b f (by decide)).trans hB) (fun q hq => by rw [fi_a, fr_b f (by decide), fr_b f (by decide)]; exact hS q hq) fi_at (CU_fr C' f6 (by decide) (by decide) (by decide)) (fun q hq => ?_) n (by omega)
      · rw [← hB] at this
        exact this
      · by_cases cq : q = i
        · rw [cq]; exact k
        · exact SY1_up (hY q (by omega)) (show q < i by omega) nr (fr_b f (by decide))
/-- phase 5 -/
theorem ph5 {σ τ : am_S} {A Z : Nat → Nat} (hc : SXc σ A Z) (hm : SXm τ A Z) (hb : σ.2.1 1 = τ.2.1 2) : R2 (g_Sy_read σ) (g_Mo_readSymbols τ) (fun x s y t => (x = 0 ∧ y = 0) ∨ (x = 1 ∧ y = 1 ∧ ∃ n, SYM s t A Z n)) := by
  obtain ⟨h6, h7, hle⟩ := hc 8 (by decide)
  obtain ⟨h3, h4, _⟩ := hm 8 (by decide)
  obtain ⟨h93, h94, h9le⟩ := hm 9 (by decide)
  have hM := ms_ok (a := A 8) (b := A 8 + Z 8) (a9 := A 9) (b9 := A 9 + Z 9) h3 (by rw [h4]; congr 1; omega) (by omega) hle h93 (by rw [h94]; congr 1; omega) (by omega) h9le
  rw [hM, show A 8 + Z 8 - A 8 = Z 8 by omega, ← hb]
  unfold g_Sy_read g_Sy_read_51
  have f0 : FR [(52, 6)] [] σ (am_fi σ 52 6 0) := fr_fi fr_rf (by simp)
  have e1 := po_ok (k := 57) (s := 8) (n := 0) (σ := am_fi σ 52 6 0) (by decide) h6 h7 hle (by omega)
  have f1 := f_Se_point e1
  rw [show g_Se_point 57 8 0 (am_fi σ 52 6 0) = _ from e1, bd_t, show (decide (¬ (24 : Nat) = 0)) = true from by decide, gd_t, fi_no (Or.inl (by decide)), fi_at, fi_no (Or.inl (by decide)), fi_no (Or.inl (by decide)), fi_at, pk_sub (by omega), show A 8 + Z 8 - (A 8 + 0) = Z 8 by omega, show nI (Z 8) - nI (Z 8) / 24 * 24 = nI (Z 8 % 24) from pk_rem (d := 24) (by omega) (by omega) (by omega), show nI (Z 8) / 24 = nI (Z 8 / 24) from pk_div (d := 24) (by omega) (by omega) (by omega), gd_t]
  by_cases c1 : Z 8 % 24 = 0
  · rw [if_pos (show nI (Z 8 % 24) = 0 by rw [c1]; rfl)]
    by_cases c2 : 60 < Z 8 / 24
    · rw [if_pos (show 60 < nI (Z 8 / 24) from nI_lt (a := 60) c2 (by omega)), if_neg (fun z => by omega)]
      exact R2_p (Or.inl ⟨rfl, rfl⟩)
    · rw [if_neg (show ¬ 60 < nI (Z 8 / 24) from nI_nlt (a := 60) (by omega) (by omega))]
      have hz : Z 8 = 24 * (Z 8 / 24) := by omega
      have hx := sy_l (A := A) (Z := Z) (t := Z 8 / 24) (by omega) hz (B := σ.2.1 1) (Z 8 / 24) 0 (by omega) (am_fi (am_fi (am_fi (am_fi σ 52 6 0) 57 1 (nI (A 8 + 0))) 57 2 (nI (A 8 + Z 8))) 57 3 0) rfl (fun q hq => hc q hq) (by rw [fi_no (Or.inl (by decide)), fi_no (Or.inl (by decide)), fi_no (Or.inl (by decide)), fi_at]; rfl) (CU_0 (by omega) hle) (fun k hk => absurd hk (by omega)) 4000 (by omega)
      rw [← hz] at hx
      refine R2_of hx (P' := fun y t => y = (if Z 8 % 24 = 0 ∧ Z 8 / 24 ≤ 60 ∧ symOK (σ.2.1 1) (A 8) (A 9) (A 9 + Z 9) (Z 8 / 24) 0 = true then 1 else 0) ∧ t = am_fi τ 0 54 (nI (Z 8 / 24))) (R1_p ⟨rfl, rfl⟩) (fun x s y t _ _ k1 k2 => ?_)
      obtain ⟨rfl, rfl⟩ := k2
      rcases k1 with ⟨rfl, k1⟩ | ⟨rfl, k1, k2, k3⟩
      · refine Or.inl ⟨rfl, if_neg (fun z => ?_)⟩
        rw [k1] at z
        exact absurd z.2.2 (by decide)
      · exact Or.inr ⟨rfl, if_pos ⟨c1, by omega, k1⟩, Z 8 / 24, by omega, k2, fi_at, by omega, k3⟩
  · rw [if_neg (nI_ne0 (n := Z 8 % 24) (by omega) (by omega)), if_neg (fun z => c1 z.1)]
    exact R2_p (Or.inl ⟨rfl, rfl⟩)
