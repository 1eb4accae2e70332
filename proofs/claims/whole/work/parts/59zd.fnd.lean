/-! finding, both sides -/
def gA : List Nat := [59, 60, 61, 62, 63, 64]
def gW : List (Nat × Nat) := [(0, 1), (0, 55), (0, 56), (0, 57), (0, 59)]
theorem fnd_2 {σ τ : am_S} {N U : Nat} {fs A Z bnd wb : Nat → Nat} {x : Int64} (h : OPN σ τ N U fs A Z bnd wb) (h5 : ¬ τ.1.1 0 5 = 0) : R2 (g_Fr_build x σ) (g_Mo_find_13 x 0 τ) (fun a s b t => a = b ∧ FR fW gA σ s ∧ FR gW [33] τ t ∧ t.1.1 0 1 = 0 ∧ ∃ k, FRK s t k) := by
  have hE := OPN_ev h
  have hl := EV_l hE
  unfold g_Fr_build g_Mo_find_13
  rw [if_neg h5]
  have f1 : FR fW gA σ (am_fi σ 58 11 0) := fr_fi fr_rf (by decide)
  have f2 : FR gW [33] τ (am_fi (am_fl (am_fi τ 0 1 0) 0 59 x) 0 55 0) := fr_fi (fr_fl (fr_fi fr_rf (by decide)) (by decide)) (by decide)
  have O1 : OPN (am_fi σ 58 11 0) (am_fi (am_fl (am_fi τ 0 1 0) 0 59 x) 0 55 0) N U fs A Z bnd wb := OPN_fr h f1 f2 (by decide) (by decide) (by decide) (by decide)
  have hx : (am_fi (am_fl (am_fi τ 0 1 0) 0 59 x) 0 55 0).1.2 0 59 = x := by
    show (am_fl (am_fi τ 0 1 0) 0 59 x).1.2 0 59 = x
    rw [fl_at]
  have h01 : (am_fi (am_fl (am_fi τ 0 1 0) 0 59 x) 0 55 0).1.1 0 1 = 0 := by
    rw [fi_no (by decide)]
    show (am_fi τ 0 1 0).1.1 0 1 = 0
    rw [fi_at]
  have h55 : (am_fi (am_fl (am_fi τ 0 1 0) 0 59 x) 0 55 0).1.1 0 55 = 0 := by rw [fi_at]
  have h11 : (am_fi σ 58 11 0).1.1 58 11 = 0 := by rw [fi_at]
  generalize am_fi (am_fl (am_fi τ 0 1 0) 0 59 x) 0 55 0 = τ1 at *
  generalize am_fi σ 58 11 0 = σ1 at *
  obtain ⟨r, r1, r2, r3⟩ := ff_l O1 hx N 0 (by omega) 4000 4000 (by omega) (by omega)
  unfold g_Fr_firstFunction g_Mo_first
  rw [show g_Fr_firstFunction_2 4000 x 0 σ1 = _ from r1, bd_t, show g_Mo_first_2 4000 46 (-1) 0 τ1 = _ from r2, bd_t]
  cases r with
  | none =>
    rw [show oN none = -1 from rfl, if_pos rfl]
    unfold g_Fr_build_59
    rw [show g_Mo_find_43 4000 (-1) τ1 = g_Mo_find_43 (3999 + 1) (-1) τ1 from rfl]
    unfold g_Mo_find_43 g_Mo_find_102 g_Mo_find_143
    rw [if_pos rfl, h55, if_pos rfl]
    have f3 : FR gW [33] τ1 (am_fi τ1 0 56 0) := fr_fi fr_rf (by decide)
    have O2 : OPN σ1 (am_fi τ1 0 56 0) N U fs A Z bnd wb := OPN_fr O1 (fr_rf (W := []) (A := [])) f3 (by decide) (by decide) (by decide) (by decide)
    have h56 : (am_fi τ1 0 56 0).1.1 0 56 = 0 := by rw [fi_at]
    have h01' : (am_fi τ1 0 56 0).1.1 0 1 = 0 := by rw [fi_no (by decide)]; exact h01
    have h55' : (am_fi τ1 0 56 0).1.1 0 55 = 0 := by rw [fi_no (by decide)]; exact h55
    have hx' : (am_fi τ1 0 56 0).1.2 0 59 = x := hx
    have f4 := fr_tr f2 f3
    generalize am_fi τ1 0 56 0 = τ2 at *
    obtain ⟨r, q1, q2, q3⟩ := cov_2 O2 hx'
    rw [q1, bd_t, q2, bd_t]
    cases r with
    | none =>
      rw [show oN none = -1 from rfl, if_pos rfl, if_pos rfl, h11, h56]
      exact R2_p ⟨rfl, f1, f4, h01', 0, by omega, h11, h56, fun j hj => by omega⟩
    | some i =>
      obtain ⟨hi, hz, ⟨b, y1, y2⟩, _⟩ := q3 i rfl
      obtain ⟨a3, a4, hle⟩ := EV_xm (OPN_ev O2) 8 (by decide)
      obtain ⟨c3, c4, cle⟩ := EV_xm (OPN_ev O2) 9 (by decide)
      have hb := EV_b (OPN_ev O2)
      have hT := txt_tx cle (by omega) y1
      have ht := ti_ok (s := 9) (a := A 9) (b := A 9 + Z 9) (x := lN (num (τ2.2.1 2) (A 8 + 24 * i) 4)) (σ := τ2) (by decide) c3 (by rw [c4]; congr 1; omega) (by omega) cle
      rw [← hb, y1] at ht
      have ht' : g_Mo_textIn 9 (lN (num (σ1.2.1 1) (A 8 + 24 * i) 4)) τ2 = some (nI b, τ2) := ht
      rw [oN_s, if_neg (nI_ne (by omega)), if_neg (nI_ne (by omega)), inb_nI (by omega) (by decide), gd_t, nI_clamp (by omega), y2, show inb 8 10 = true from rfl, gd_t, show τ2.2.1 3 (8 : Int32).toNatClampNeg = nI (A 8) from a3, show (24 : Int32) * nI i = nI (24 * i) from pk_mul 24 i, nI_add, show g_Mo_peek (nI (A 8 + 24 * i)) 4 τ2 = _ from pe_ok (m := 4) (by omega) (by decide), bd_t, ← hb, ht', bd_t]
      obtain ⟨w, s, e1, p1, p2, p3, p4⟩ := add_c (σ := σ1) (j := 0) (l := 0) (f := -1) (by omega) h11 (Or.inr ⟨b, rfl, hT⟩) (Or.inl rfl)
      rw [e1, bd_t]
      refine R2_p ⟨?_, fr_tr f1 (fr_up p1 (by decide) (by decide)), fr_fi (fr_fi f4 (by decide)) (by decide), ?_, 1, by omega, p2, ?_, fun j hj => ?_⟩
      · rw [p2, fi_at]; rfl
      · rw [fi_no (by decide), fi_no (by decide)]; exact h01'
      · rw [fi_at]; rfl
      · have : j = 0 := by omega
        subst this
        refine ⟨nI b, -1, 0, by rw [fr_b p1 (by decide)]; exact p3, ?_⟩
        have k56 : (am_fi (am_fi (am_fi τ2 0 57 (nI b)) 0 56 1) 0 1 0).1.1 0 56 = nI 1 := by rw [fi_no (by decide), fi_at]; rfl
        have k55 : (am_fi (am_fi (am_fi τ2 0 57 (nI b)) 0 56 1) 0 1 0).1.1 0 55 = 0 := by rw [fi_no (by decide), fi_no (by decide), fi_no (by decide)]; exact h55'
        have k57 : (am_fi (am_fi (am_fi τ2 0 57 (nI b)) 0 56 1) 0 1 0).1.1 0 57 = nI b := by rw [fi_no (by decide), fi_no (by decide), fi_at]
        refine ⟨?_, fun i => ?_, ?_⟩
        · unfold g_Mo_nameOf
          rw [k55, if_pos rfl, k57]
        · unfold g_Mo_file g_Mo_file_20
          rw [isf_m (k := 1) (by omega) (by omega) k56, bd_t, if_neg i10, k55, if_pos rfl]
          rfl
        · unfold g_Mo_line
          rw [isf_m (k := 1) (by omega) (by omega) k56, bd_t, if_neg i10, k55, if_pos rfl]
  | some e =>
    obtain ⟨he, ht⟩ := r3 e rfl
    rw [oN_s, if_neg (nI_ne (by omega))]
    obtain ⟨u, hu, E⟩ := EV_en (OPN_ev O1) e he
    obtain ⟨E1, _, _, _, _, _, ⟨d, hd, hD, hd0⟩, _⟩ := E
    unfold g_Fr_addChain
    obtain ⟨s, k, c, t, k1, k2, k3, k4, k5, k6, k7, k8, k9, k10, k11⟩ := cw_l (u := u) (x := x) 16 0 (by omega) σ1 τ1 (fun _ => 0) (some e) O1 hx (fun m hm => by omega) (fun m hm => by omega) h55 (fun m hm => by omega) (fun z => by cases z) (fun e' z => by
      cases z
      intro i hi
      simp only [Nat.not_lt_zero, if_false]
      refine ⟨he, Or.inl ht, E1, fun d' hd' => ?_⟩
      cases d' with
      | succ d' => omega
      | zero =>
        exfalso
        have a1 : σ1.2.1 12 e = -1 := hd'
        cases d with
        | zero =>
          have := hd0.mp rfl
          rw [ht] at this
          exact absurd this (by decide)
        | succ d =>
          obtain ⟨p, hp, q, _⟩ := hD
          exact absurd (q.symm.trans a1) (nI_ne (by omega))) 4000 4000 (by omega) (by omega)
    rw [show g_Fr_addChain_9 4000 x 0 (nI e) 0 σ1 = _ from k3, show g_Mo_find_43 4000 (nI e) τ1 = _ from k4]
    have g6 : FR gW [33] τ1 t := fr_up k6 (by decide) (by decide)
    have g7 : FR gW [33] τ1 (am_fi t 0 1 0) := fr_fi g6 (by decide)
    have O3 : OPN s (am_fi t 0 1 0) N U fs A Z bnd wb := OPN_fr O1 k5 g7 (by decide) (by decide) (by decide) (by decide)
    have hx3 : t.1.2 0 59 = x := by rw [fr_j k6 (by decide)]; exact hx
    obtain ⟨w, s', e1, p1, p2⟩ := ac52 (x := x) (u := u) (c := c) hx3 O3 ⟨hu, k1, k2, by rw [fi_no (by decide)]; exact k7, by rw [fi_no (by decide)]; exact k8, k10, k11⟩ k9 (by rw [fr_i k5 (by decide)]; exact h11)
    rw [e1, bd_t]
    refine R2_p ⟨p2.2.1, fr_tr f1 (fr_tr (fr_up k5 (by decide) (by decide)) (fr_up p1 (by decide) (by decide))), fr_tr f2 g6, ?_, k, p2⟩
    rw [fr_i k6 (by decide)]; exact h01
