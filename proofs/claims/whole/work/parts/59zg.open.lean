/-! open -/
def KB (len : Nat) (σ τ : am_S) : Prop := len ≤ 3000 ∧ σ.1.1 0 10 = nI len ∧ τ.1.1 0 3 = nI len ∧ σ.2.1 1 = τ.2.1 2 ∧ BS (σ.2.1 1) ∧ SPE τ ∧ σ.1.1 0 11 = 0 ∧ σ.1.1 58 11 = 0 ∧ τ.1.1 0 56 = 0 ∧ σ.1.1 0 12 = 0
theorem KB_fr {len : Nat} {W W' : List (Nat × Nat)} {A A' : List Nat} {σ τ s t : am_S} (h : KB len σ τ) (f : FR W A σ s) (g : FR W' A' τ t) (n : (W.contains (0, 10) || W.contains (0, 11) || W.contains (0, 12) || W.contains (58, 11) || A.contains 1) = false) (n' : (W'.contains (0, 3) || W'.contains (0, 56) || A'.contains 2 || A'.contains 1) = false) : KB len s t := by
  simp only [Bool.or_eq_false_iff] at n n'
  obtain ⟨⟨⟨⟨n1, n2⟩, n3⟩, n4⟩, n5⟩ := n
  obtain ⟨⟨⟨m1, m2⟩, m3⟩, m4⟩ := n'
  unfold KB SPE at *
  rw [fr_i f n1, fr_i f n2, fr_i f n3, fr_i f n4, fr_b f n5, fr_i g m1, fr_i g m2, fr_b g m3, fr_c g m4]
  exact h
def OQ (r : Option Int32) (s : am_S) (v : Int32) (t : am_S) : Prop := (r = some v ∧ t.1.1 0 1 = 0 ∨ r = none ∧ t.1.1 0 1 = 1) ∧ JJ s t
theorem op_no {len p : Nat} {s t : am_S} (h : KB len s t) (h1 : 1 ≤ p) (h5 : p ≤ 5) : R2 (g_F_open_100 (am_fi s 0 12 (nI p))) (g_Mo_open_86 (nI p) t) OQ := by
  obtain ⟨b1, b2, b3, b4, b5, b6, b7, b8, b9, b10⟩ := h
  have hp : ¬ nI p = 0 := nI_ne0 (by omega) (by omega)
  unfold g_F_open_100 g_Mo_open_86 g_Mo_open_102 g_Mo_open_118 g_Mo_open_136
  rw [fi_at, if_neg hp, if_neg hp, show z01 0 = true from rfl, gd_t, if_pos rfl, fi_at, if_pos rfl]
  refine R2_p ⟨Or.inr ⟨rfl, by rw [fi_at]⟩, ⟨len, b1, ?_, ?_, b4, b5, b6, ?_⟩, FRK_0 ?_ ?_, Or.inl ⟨?_, ?_⟩⟩
  · rw [fi_no (by decide)]; exact b2
  · rw [fi_no (by decide), fi_no (by decide), fi_no (by decide)]; exact b3
  · rw [fi_at, fi_no (by decide), fi_no (by decide), fi_at]
  · rw [fi_no (by decide)]; exact b8
  · rw [fi_no (by decide), fi_no (by decide), fi_no (by decide)]; exact b9
  · rw [fi_no (by decide)]; exact b7
  · rw [fi_no (by decide), fi_at]
theorem op_ok {len N U : Nat} {fs A Z bnd wb : Nat → Nat} {s t : am_S} (h : KB len s t) (hO : OPN s t N U fs A Z bnd wb) (h8 : s.1.1 2 8 = t.1.1 0 9) : R2 (g_F_open_100 s) (g_Mo_open_86 0 t) OQ := by
  obtain ⟨b1, b2, b3, b4, b5, b6, b7, b8, b9, b10⟩ := h
  unfold g_F_open_100 g_Mo_open_86 g_Mo_open_102 g_Mo_open_118 g_Mo_open_136
  rw [b10, if_pos rfl, if_pos rfl, show z01 1 = true from rfl, gd_t, if_neg i10, fi_at, if_neg i10]
  have f1 : FR [(0, 11)] [] s (am_fi s 0 11 1) := fr_fi fr_rf (by decide)
  have f2 : FR [(0, 4), (0, 5), (0, 1)] [] t (am_fi (am_fi (am_fi t 0 4 0) 0 5 1) 0 1 0) := fr_fi (fr_fi (fr_fi fr_rf (by decide)) (by decide)) (by decide)
  refine R2_p ⟨Or.inl ⟨?_, by rw [fi_at]⟩, ⟨len, b1, ?_, ?_, b4, b5, b6, ?_⟩, FRK_0 ?_ ?_, Or.inr ⟨?_, ?_, ?_, N, U, fs, A, Z, bnd, wb, OPN_fr hO f1 f2 (by decide) (by decide) (by decide) (by decide)⟩⟩
  · rw [EV_n (OPN_ev hO), fi_no (by decide), fi_no (by decide), EV_m (OPN_ev hO)]
  · rw [fr_i f1 (by decide)]; exact b2
  · rw [fr_i f2 (by decide)]; exact b3
  · rw [fr_i f1 (by decide), b10, fi_no (by decide), fi_no (by decide), fi_at]
  · rw [fr_i f1 (by decide)]; exact b8
  · rw [fr_i f2 (by decide)]; exact b9
  · rw [fi_at]
  · rw [fi_no (by decide), fi_at]
  · rw [fr_i f1 (by decide), fr_i f2 (by decide)]; exact h8
theorem op_2 {len : Nat} {σ τ : am_S} (h : KB len σ τ) (h9 : τ.1.1 0 21 = 0) (h22 : τ.1.1 0 22 = 0) (h33 : τ.1.1 0 33 = 0) (h38 : τ.1.1 0 38 = 0) : R2
    (am_bd (g_Se_read (nI len) σ) fun v10 σ10 => if v10 = 0 then g_F_open_100 (am_fi σ10 0 12 1) else am_bd (g_Ur_read σ10) fun v14 σ14 => if v14 = 0 then g_F_open_100 (am_fi σ14 0 12 2) else am_bd (g_Va_read σ14) fun v18 σ18 => if v18 = 0 then g_F_open_100 (am_fi σ18 0 12 3) else am_bd (g_Li_read σ18) fun v22 σ22 => if v22 = 0 then g_F_open_100 (am_fi σ22 0 12 4) else am_bd (g_Sy_read σ22) fun v26 σ26 => if v26 = 0 then g_F_open_100 (am_fi σ26 0 12 5) else g_F_open_100 σ26)
    (am_bd (g_Mo_readSections τ) fun v20 σ20 => if v20 = 0 then g_Mo_open_86 (1) σ20 else am_bd (g_Mo_readUnits σ20) fun v23 σ23 => if v23 = 0 then g_Mo_open_86 (2) σ23 else am_bd (g_Mo_readValues σ23) fun v26 σ26 => if v26 = 0 then g_Mo_open_86 (3) σ26 else am_bd (g_Mo_readAllLines σ26) fun v29 σ29 => if v29 = 0 then g_Mo_open_86 (4) σ29 else am_bd (g_Mo_readSymbols σ29) fun v32 σ32 => if v32 = 0 then g_Mo_open_86 (5) σ32 else g_Mo_open_86 (0) σ32) OQ := by
  obtain ⟨b1, b2, b3, b4, b5, b6, b7, b8, b9, b10⟩ := id h
  refine R2_b (ph1 b1 b3 b5 b4.symm b6) (fun x1 s1 y1 t1 e1 d1 k1 => ?_)
  have F1 := f_Se_read e1
  have G1 := f_Mo_readSections d1
  have K1 : KB len s1 t1 := KB_fr h F1 G1 (by decide) (by decide)
  rcases k1 with ⟨rfl, rfl⟩ | ⟨rfl, rfl, S1, hcnt⟩
  · rw [if_pos rfl, if_pos rfl]
    exact op_no (p := 1) K1 (by decide) (by decide)
  rw [if_neg i10, if_neg i10]
  refine R2_b (ph2 S1 K1.2.2.2.1 (by rw [fr_i G1 (by decide)]; exact h9) (by rw [fr_i G1 (by decide)]; exact h22)) (fun x2 s2 y2 t2 e2 d2 k2 => ?_)
  have F2 := f_Ur_read e2
  have G2 := f_Mo_readUnits d2
  have K2 : KB len s2 t2 := KB_fr K1 F2 G2 (by decide) (by decide)
  rcases k2 with ⟨rfl, rfl⟩ | ⟨rfl, rfl, N, U, fs, hUL⟩
  · rw [if_pos rfl, if_pos rfl]
    exact op_no (p := 2) K2 (by decide) (by decide)
  rw [if_neg i10, if_neg i10]
  obtain ⟨A, Z, hE2, hRAW⟩ := EV_of hUL
  refine R2_b (ph3 hE2 hRAW (by rw [fr_i G2 (by decide), fr_i G1 (by decide)]; exact h33)) (fun x3 s3 y3 t3 e3 d3 k3 => ?_)
  have F3 := f_Va_read e3
  have G3 := f_Mo_readValues d3
  have K3 : KB len s3 t3 := KB_fr K2 F3 G3 (by decide) (by decide)
  rcases k3 with ⟨rfl, rfl⟩ | ⟨rfl, rfl, bnd, ⟨hE3, hRN, _, hDN, _, hBN⟩, hbN⟩
  · rw [if_pos rfl, if_pos rfl]
    exact op_no (p := 3) K3 (by decide) (by decide)
  rw [if_neg i10, if_neg i10]
  refine R2_b (ph4 hE3 (by rw [fr_i G3 (by decide), fr_i G2 (by decide), fr_i G1 (by decide)]; exact h38)) (fun x4 s4 y4 t4 e4 d4 k4 => ?_)
  have F4 := f_Li_read e4
  have G4 := f_Mo_readAllLines d4
  have K4 : KB len s4 t4 := KB_fr K3 F4 G4 (by decide) (by decide)
  rcases k4 with ⟨rfl, rfl⟩ | ⟨rfl, rfl, wb, ⟨hE4, hRW, hFU, hWB⟩, hwN⟩
  · rw [if_pos rfl, if_pos rfl]
    exact op_no (p := 4) K4 (by decide) (by decide)
  rw [if_neg i10, if_neg i10]
  refine R2_b (ph5 (EV_xc hE4) (EV_xm hE4) (EV_b hE4)) (fun x5 s5 y5 t5 e5 d5 k5 => ?_)
  have F5 := f_Sy_read e5
  have G5 := f_Mo_readSymbols d5
  have K5 : KB len s5 t5 := KB_fr K4 F5 G5 (by decide) (by decide)
  rcases k5 with ⟨rfl, rfl⟩ | ⟨rfl, rfl, hSY⟩
  · rw [if_pos rfl, if_pos rfl]
    exact op_no (p := 5) K5 (by decide) (by decide)
  rw [if_neg i10, if_neg i10]
  refine op_ok (N := N) (U := U) (fs := fs) (A := A) (Z := Z) (bnd := bnd) (wb := wb) K5 ⟨EV_fr hE4 F5 G5 (by decide) (by decide), RN_fr (RN_fr hRN F4 G4 (by decide)) F5 G5 (by decide), ?_, ?_, ?_, RW_fr hRW F5 G5 (by decide), fun v hv => FU_fr (hFU v hv) F5 G5 (by decide), ?_, ?_, hSY⟩ ?_
  · intro i hi u hu
    have := hDN i hi u hu
    unfold DN rsv rsp bas orP at *
    rw [fr_b G5 (by decide), fr_b G5 (by decide), fr_b G5 (by decide), fr_b G5 (by decide), fr_b G5 (by decide), fr_c G5 (by decide), fr_b F5 (by decide), fr_c F5 (by decide), fr_c F5 (by decide), fr_b G4 (by decide), fr_b G4 (by decide), fr_b G4 (by decide), fr_b G4 (by decide), fr_b G4 (by decide), fr_c G4 (by decide), fr_b F4 (by decide), fr_c F4 (by decide), fr_c F4 (by decide)]
    exact this
  · unfold BN at *
    rw [fr_b F5 (by decide), fr_b F5 (by decide), fr_b G5 (by decide), fr_b F4 (by decide), fr_b F4 (by decide), fr_b G4 (by decide)]
    exact hBN
  · rw [fr_b G5 (by decide), fr_b G4 (by decide)]; exact hbN
  · unfold WB at *
    rw [fr_b F5 (by decide), fr_b F5 (by decide), fr_b G5 (by decide)]
    exact hWB
  · rw [fr_b G5 (by decide)]; exact hwN
  · rw [fr_i F5 (by decide), fr_i F4 (by decide), fr_i F3 (by decide), fr_i F2 (by decide), hcnt, fr_i G5 (by decide), fr_i G4 (by decide), fr_i G3 (by decide), fr_i G2 (by decide)]
theorem c_open {σ τ : am_S} (h : JJ σ τ) : pu_t (g_F_open σ) (g_Mo_open τ) JJ := by
  obtain ⟨⟨len, b1, b2, b3, b4, b5, b6, b7⟩, _, _⟩ := h
  have hK : KB len (am_fi (fgC σ) 0 12 0) (am_fi (am_fi (am_fi (am_fi (am_fi (fgM τ) 0 9 0) 0 21 0) 0 22 0) 0 33 0) 0 38 0) := by
    unfold fgC fgM
    refine ⟨b1, ?_, ?_, b4, b5, b6, ?_, ?_, ?_, by rw [fi_at]⟩
    · rw [fi_no (by decide), fi_no (by decide), fi_no (by decide)]; exact b2
    · rw [fi_no (by decide), fi_no (by decide), fi_no (by decide), fi_no (by decide), fi_no (by decide), fi_no (by decide), fi_no (by decide), fi_no (by decide)]; exact b3
    · rw [fi_no (by decide), fi_no (by decide), fi_at]
    · rw [fi_no (by decide), fi_at]
    · rw [fi_no (by decide), fi_no (by decide), fi_no (by decide), fi_no (by decide), fi_no (by decide), fi_no (by decide), fi_at]
  obtain ⟨r, s, v, t, e1, e2, hr, hJ⟩ := op_2 hK (by rw [fi_no (by decide), fi_no (by decide), fi_no (by decide), fi_at]) (by rw [fi_no (by decide), fi_no (by decide), fi_at]) (by rw [fi_no (by decide), fi_at]) (by rw [fi_at])
  have h10 : (fgC σ).1.1 0 10 = nI len := by
    unfold fgC
    rw [fi_no (by decide), fi_no (by decide)]; exact b2
  refine ⟨r, v, s, t, ?_, ?_, hr, hJ⟩
  · rw [← e1, ← h10]
    rfl
  · rw [← e2]
    rfl
theorem c_all : pu_ops JJ JJ := fun _ _ h => ⟨fun _ _ => c_load h, c_clear h, c_open h, c_fault h, fun _ => c_count h, fun _ => c_find h, fun _ _ => c_name h, fun _ _ => c_file h, fun _ => c_line h, h⟩
