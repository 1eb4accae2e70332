/-! the values of attributes -/
def TX (B : Nat → Int32) (b : Nat) : Prop := ∃ e, b ≤ e ∧ e < 3000 ∧ B e = 0
def RV (k f p q : Nat) (σ τ : am_S) (v : Int64) (s : am_S) (w : Int64) (t : am_S) : Prop := FR [(k, 1), (k, 3)] [] σ s ∧ FR [(0, 6), (0, 8)] [] τ t ∧ ((∃ p', p ≤ p' ∧ p' ≤ q ∧ RG k s t p' q ∧ v = w ∧ (f = 8 → ∃ b, v = lN b ∧ TX (σ.2.1 1) b) ∧ (¬ f = 33 → ¬ f = 25 → p < p')) ∨ BD k s t)
theorem rv_u {k f p q m : Nat} {σ τ : am_S} (h : RG k σ τ p q) (h1 : 1 ≤ m) (h8 : m ≤ 8) (hf : ¬ f = 8) : R2 (am_bd (g_Cu_number k (nI m) σ) fun v s => some (v, s)) (am_bd (g_Mo_u (nI m) τ) fun v s => some (v, s)) (RV k f p q σ τ) := by
  refine R2_b (xu h h1 h8) (fun v s w t _ _ k1 => ?_)
  obtain ⟨f1, g1, k1⟩ := k1
  rcases k1 with ⟨hq, G, rfl, rfl⟩ | ⟨b, _, _⟩
  · exact R2_p ⟨f1, g1, Or.inl ⟨_, by omega, hq, G, rfl, fun z => absurd z hf, fun _ _ => by omega⟩⟩
  · exact R2_p ⟨f1, g1, Or.inr b⟩
theorem rv_l {k f p q : Nat} {σ τ : am_S} (h : RG k σ τ p q) (hf : ¬ f = 8) : R2 (am_bd (g_Cu_uleb k σ) fun v s => some (v, s)) (am_bd (g_Mo_leb 0 τ) fun v s => some (v, s)) (RV k f p q σ τ) := by
  refine R2_b (xul h) (fun v s w t _ _ k1 => ?_)
  obtain ⟨f1, g1, k1⟩ := k1
  rcases k1 with ⟨p', h1, h2, G, rfl⟩ | ⟨b, _⟩
  · exact R2_p ⟨f1, g1, Or.inl ⟨p', by omega, h2, G, rfl, fun z => absurd z hf, fun _ _ => h1⟩⟩
  · exact R2_p ⟨f1, g1, Or.inr b⟩
theorem rv_s {k f p q : Nat} {σ τ : am_S} (h : RG k σ τ p q) (hf : ¬ f = 8) : R2 (am_bd (g_Cu_sleb k σ) fun v s => some (v, s)) (am_bd (g_Mo_leb 1 τ) fun v s => some (v, s)) (RV k f p q σ τ) := by
  refine R2_b (xsl h) (fun v s w t _ _ k1 => ?_)
  obtain ⟨f1, g1, k1⟩ := k1
  rcases k1 with ⟨p', h1, h2, G, rfl⟩ | ⟨b, _⟩
  · exact R2_p ⟨f1, g1, Or.inl ⟨p', by omega, h2, G, rfl, fun z => absurd z hf, fun _ _ => h1⟩⟩
  · exact R2_p ⟨f1, g1, Or.inr b⟩
theorem rv_t {k p q : Nat} {σ τ : am_S} (h : RG k σ τ p q) : R2 (am_bd (g_Cu_text k σ) fun v s => some (v.toInt64, s)) (am_bd (g_Mo_text τ) fun v s => some (v.toInt64, s)) (RV k 8 p q σ τ) := by
  have hq := RG_q h
  refine R2_b (xt h) (fun v s w t _ _ k1 => ?_)
  obtain ⟨f1, g1, k1⟩ := k1
  rcases k1 with ⟨e, h1, h2, ht, G, rfl, rfl⟩ | b
  · exact R2_p ⟨f1, g1, Or.inl ⟨e + 1, by omega, by omega, G, rfl, fun _ => ⟨p, nI_l (by omega), e, h1, by omega, (tEnd_nz ht).2⟩, fun _ _ => by omega⟩⟩
  · exact R2_p ⟨f1, g1, Or.inr b⟩
theorem rv_b {k f p q : Nat} {σ τ : am_S} (h : RG k σ τ p q) (hf : ¬ f = 8) : R2 (am_bd (g_Cu_uleb k σ) fun v7 σ7 => am_bd (g_Cu_skip k v7 σ7) fun _ σ8 => some (0, σ8)) (am_bd (g_Mo_leb 0 τ) fun v4 σ4 => am_bd (g_Mo_pass v4 σ4) fun _ σ5 => some (0, σ5)) (RV k f p q σ τ) := by
  refine R2_b (xul h) (fun v s w t _ _ k1 => ?_)
  obtain ⟨f1, g1, k1⟩ := k1
  rcases k1 with ⟨p', h1, h2, G, rfl⟩ | ⟨b, _⟩
  · refine R2_b (xs G) (fun _ s2 _ t2 _ _ k2 => ?_)
    obtain ⟨f2, g2, k2⟩ := k2
    rcases k2 with ⟨n, hn, _, G2⟩ | ⟨b, _⟩
    · exact R2_p ⟨fr_tr f1 f2, fr_tr g1 g2, Or.inl ⟨p' + n, by omega, hn, G2, rfl, fun z => absurd z hf, fun _ _ => by omega⟩⟩
    · exact R2_p ⟨fr_tr f1 f2, fr_tr g1 g2, Or.inr b⟩
  · refine R2_l (R1sk b.1) (fun _ s2 _ k2 => ?_)
    refine R2_r (R1mp b.2) (fun _ t2 _ k3 => ?_)
    exact R2_p ⟨fr_tr f1 k2.2, fr_tr g1 k3.2, Or.inr ⟨k2.1, k3.1⟩⟩
theorem rv_c {k f p q : Nat} {x : Int64} {σ τ : am_S} (h : RG k σ τ p q) (hf : f = 33 ∨ f = 25) : R2 (some (x, σ)) (some (x, τ)) (RV k f p q σ τ) := by
  have hq := RG_q h
  exact R2_p ⟨fr_rf, fr_rf, Or.inl ⟨p, by omega, hq.1, h, rfl, fun z => by omega, fun a b => by omega⟩⟩
theorem rvZ {f p q : Nat} {x : Int64} {σ τ : am_S} (hf : f ∈ FMS) (h : RG 30 σ τ p q) : R2 (g_Ur_readValue (nI f) x σ) (g_Mo_readValue (nI f) x τ) (RV 30 f p q σ τ) := by
  unfold g_Ur_readValue g_Mo_readValue g_Ur_readValue_164 g_Ur_readValue_174 g_Ur_readValue_200 g_Ur_readValue_237 g_Mo_readValue_164 g_Mo_readValue_171 g_Mo_readValue_183 g_Mo_readValue_195 g_Mo_readValue_211
  simp only [FMS, List.mem_cons, List.not_mem_nil, or_false] at hf
  rcases hf with rfl | rfl | rfl | rfl | rfl | rfl | rfl | rfl | rfl | rfl | rfl | rfl | rfl | rfl | rfl | rfl | rfl | rfl
  · rw [if_pos (show nI 1 = 1 from rfl)]
    rw [if_pos (show nI 1 = 1 from rfl)]
    exact rv_u (m := 8) h (by omega) (by omega) (by decide)
  · rw [if_neg (show ¬ nI 5 = 1 by decide), if_pos (show nI 5 = 5 from rfl)]
    rw [if_neg (show ¬ nI 5 = 1 by decide), if_pos (show nI 5 = 5 from rfl)]
    exact rv_u (m := 2) h (by omega) (by omega) (by decide)
  · rw [if_neg (show ¬ nI 6 = 1 by decide), if_neg (show ¬ nI 6 = 5 by decide), if_neg (show ¬ nI 6 = 7 by decide), if_neg (show ¬ nI 6 = 8 by decide), if_neg (show ¬ nI 6 = 11 by decide), if_neg (show ¬ nI 6 = 13 by decide), if_neg (show ¬ nI 6 = 15 by decide), if_neg (show ¬ nI 6 = 24 by decide), if_neg (show ¬ nI 6 = 25 by decide), if_neg (show ¬ nI 6 = 27 by decide), if_neg (show ¬ nI 6 = 33 by decide), if_neg (show ¬ nI 6 = 35 by decide), if_neg (show ¬ nI 6 = 37 by decide)]
    rw [if_neg (show ¬ nI 6 = 1 by decide), if_neg (show ¬ nI 6 = 5 by decide), if_pos (show nI 6 = 6 from rfl)]
    exact rv_u (m := 4) h (by omega) (by omega) (by decide)
  · rw [if_neg (show ¬ nI 7 = 1 by decide), if_neg (show ¬ nI 7 = 5 by decide), if_pos (show nI 7 = 7 from rfl)]
    rw [if_neg (show ¬ nI 7 = 1 by decide), if_neg (show ¬ nI 7 = 5 by decide), if_neg (show ¬ nI 7 = 6 by decide), if_pos (show nI 7 = 7 from rfl)]
    exact rv_u (m := 8) h (by omega) (by omega) (by decide)
  · rw [if_neg (show ¬ nI 8 = 1 by decide), if_neg (show ¬ nI 8 = 5 by decide), if_neg (show ¬ nI 8 = 7 by decide), if_pos (show nI 8 = 8 from rfl)]
    rw [if_neg (show ¬ nI 8 = 1 by decide), if_neg (show ¬ nI 8 = 5 by decide), if_neg (show ¬ nI 8 = 6 by decide), if_neg (show ¬ nI 8 = 7 by decide), if_pos (show nI 8 = 8 from rfl)]
    exact rv_t h
  · rw [if_neg (show ¬ nI 11 = 1 by decide), if_neg (show ¬ nI 11 = 5 by decide), if_neg (show ¬ nI 11 = 7 by decide), if_neg (show ¬ nI 11 = 8 by decide), if_pos (show nI 11 = 11 from rfl)]
    rw [if_neg (show ¬ nI 11 = 1 by decide), if_neg (show ¬ nI 11 = 5 by decide), if_neg (show ¬ nI 11 = 6 by decide), if_neg (show ¬ nI 11 = 7 by decide), if_neg (show ¬ nI 11 = 8 by decide), if_pos (show nI 11 = 11 from rfl)]
    exact rv_u (m := 1) h (by omega) (by omega) (by decide)
  · rw [if_neg (show ¬ nI 13 = 1 by decide), if_neg (show ¬ nI 13 = 5 by decide), if_neg (show ¬ nI 13 = 7 by decide), if_neg (show ¬ nI 13 = 8 by decide), if_neg (show ¬ nI 13 = 11 by decide), if_pos (show nI 13 = 13 from rfl)]
    rw [if_neg (show ¬ nI 13 = 1 by decide), if_neg (show ¬ nI 13 = 5 by decide), if_neg (show ¬ nI 13 = 6 by decide), if_neg (show ¬ nI 13 = 7 by decide), if_neg (show ¬ nI 13 = 8 by decide), if_neg (show ¬ nI 13 = 11 by decide), if_pos (show nI 13 = 13 from rfl)]
    exact rv_s h (by decide)
  · rw [if_neg (show ¬ nI 14 = 1 by decide), if_neg (show ¬ nI 14 = 5 by decide), if_neg (show ¬ nI 14 = 7 by decide), if_neg (show ¬ nI 14 = 8 by decide), if_neg (show ¬ nI 14 = 11 by decide), if_neg (show ¬ nI 14 = 13 by decide), if_neg (show ¬ nI 14 = 15 by decide), if_neg (show ¬ nI 14 = 24 by decide), if_neg (show ¬ nI 14 = 25 by decide), if_neg (show ¬ nI 14 = 27 by decide), if_neg (show ¬ nI 14 = 33 by decide), if_neg (show ¬ nI 14 = 35 by decide), if_neg (show ¬ nI 14 = 37 by decide)]
    rw [if_neg (show ¬ nI 14 = 1 by decide), if_neg (show ¬ nI 14 = 5 by decide), if_neg (show ¬ nI 14 = 6 by decide), if_neg (show ¬ nI 14 = 7 by decide), if_neg (show ¬ nI 14 = 8 by decide), if_neg (show ¬ nI 14 = 11 by decide), if_neg (show ¬ nI 14 = 13 by decide), if_pos (show nI 14 = 14 from rfl)]
    exact rv_u (m := 4) h (by omega) (by omega) (by decide)
  · rw [if_neg (show ¬ nI 15 = 1 by decide), if_neg (show ¬ nI 15 = 5 by decide), if_neg (show ¬ nI 15 = 7 by decide), if_neg (show ¬ nI 15 = 8 by decide), if_neg (show ¬ nI 15 = 11 by decide), if_neg (show ¬ nI 15 = 13 by decide), if_pos (show nI 15 = 15 from rfl)]
    rw [if_neg (show ¬ nI 15 = 1 by decide), if_neg (show ¬ nI 15 = 5 by decide), if_neg (show ¬ nI 15 = 6 by decide), if_neg (show ¬ nI 15 = 7 by decide), if_neg (show ¬ nI 15 = 8 by decide), if_neg (show ¬ nI 15 = 11 by decide), if_neg (show ¬ nI 15 = 13 by decide), if_neg (show ¬ nI 15 = 14 by decide), if_pos (show nI 15 = 15 from rfl)]
    exact rv_l h (by decide)
  · rw [if_neg (show ¬ nI 19 = 1 by decide), if_neg (show ¬ nI 19 = 5 by decide), if_neg (show ¬ nI 19 = 7 by decide), if_neg (show ¬ nI 19 = 8 by decide), if_neg (show ¬ nI 19 = 11 by decide), if_neg (show ¬ nI 19 = 13 by decide), if_neg (show ¬ nI 19 = 15 by decide), if_neg (show ¬ nI 19 = 24 by decide), if_neg (show ¬ nI 19 = 25 by decide), if_neg (show ¬ nI 19 = 27 by decide), if_neg (show ¬ nI 19 = 33 by decide), if_neg (show ¬ nI 19 = 35 by decide), if_neg (show ¬ nI 19 = 37 by decide)]
    rw [if_neg (show ¬ nI 19 = 1 by decide), if_neg (show ¬ nI 19 = 5 by decide), if_neg (show ¬ nI 19 = 6 by decide), if_neg (show ¬ nI 19 = 7 by decide), if_neg (show ¬ nI 19 = 8 by decide), if_neg (show ¬ nI 19 = 11 by decide), if_neg (show ¬ nI 19 = 13 by decide), if_neg (show ¬ nI 19 = 14 by decide), if_neg (show ¬ nI 19 = 15 by decide), if_pos (show nI 19 = 19 from rfl)]
    exact rv_u (m := 4) h (by omega) (by omega) (by decide)
  · rw [if_neg (show ¬ nI 23 = 1 by decide), if_neg (show ¬ nI 23 = 5 by decide), if_neg (show ¬ nI 23 = 7 by decide), if_neg (show ¬ nI 23 = 8 by decide), if_neg (show ¬ nI 23 = 11 by decide), if_neg (show ¬ nI 23 = 13 by decide), if_neg (show ¬ nI 23 = 15 by decide), if_neg (show ¬ nI 23 = 24 by decide), if_neg (show ¬ nI 23 = 25 by decide), if_neg (show ¬ nI 23 = 27 by decide), if_neg (show ¬ nI 23 = 33 by decide), if_neg (show ¬ nI 23 = 35 by decide), if_neg (show ¬ nI 23 = 37 by decide)]
    rw [if_neg (show ¬ nI 23 = 1 by decide), if_neg (show ¬ nI 23 = 5 by decide), if_neg (show ¬ nI 23 = 6 by decide), if_neg (show ¬ nI 23 = 7 by decide), if_neg (show ¬ nI 23 = 8 by decide), if_neg (show ¬ nI 23 = 11 by decide), if_neg (show ¬ nI 23 = 13 by decide), if_neg (show ¬ nI 23 = 14 by decide), if_neg (show ¬ nI 23 = 15 by decide), if_neg (show ¬ nI 23 = 19 by decide), if_pos (show nI 23 = 23 from rfl)]
    exact rv_u (m := 4) h (by omega) (by omega) (by decide)
  · rw [if_neg (show ¬ nI 24 = 1 by decide), if_neg (show ¬ nI 24 = 5 by decide), if_neg (show ¬ nI 24 = 7 by decide), if_neg (show ¬ nI 24 = 8 by decide), if_neg (show ¬ nI 24 = 11 by decide), if_neg (show ¬ nI 24 = 13 by decide), if_neg (show ¬ nI 24 = 15 by decide), if_pos (show nI 24 = 24 from rfl)]
    rw [if_neg (show ¬ nI 24 = 1 by decide), if_neg (show ¬ nI 24 = 5 by decide), if_neg (show ¬ nI 24 = 6 by decide), if_neg (show ¬ nI 24 = 7 by decide), if_neg (show ¬ nI 24 = 8 by decide), if_neg (show ¬ nI 24 = 11 by decide), if_neg (show ¬ nI 24 = 13 by decide), if_neg (show ¬ nI 24 = 14 by decide), if_neg (show ¬ nI 24 = 15 by decide), if_neg (show ¬ nI 24 = 19 by decide), if_neg (show ¬ nI 24 = 23 by decide), if_neg (show ¬ nI 24 = 25 by decide), if_neg (show ¬ nI 24 = 27 by decide), if_neg (show ¬ nI 24 = 31 by decide), if_neg (show ¬ nI 24 = 33 by decide), if_neg (show ¬ nI 24 = 35 by decide), if_neg (show ¬ nI 24 = 37 by decide)]
    exact rv_b h (by decide)
  · rw [if_neg (show ¬ nI 25 = 1 by decide), if_neg (show ¬ nI 25 = 5 by decide), if_neg (show ¬ nI 25 = 7 by decide), if_neg (show ¬ nI 25 = 8 by decide), if_neg (show ¬ nI 25 = 11 by decide), if_neg (show ¬ nI 25 = 13 by decide), if_neg (show ¬ nI 25 = 15 by decide), if_neg (show ¬ nI 25 = 24 by decide), if_pos (show nI 25 = 25 from rfl)]
    rw [if_neg (show ¬ nI 25 = 1 by decide), if_neg (show ¬ nI 25 = 5 by decide), if_neg (show ¬ nI 25 = 6 by decide), if_neg (show ¬ nI 25 = 7 by decide), if_neg (show ¬ nI 25 = 8 by decide), if_neg (show ¬ nI 25 = 11 by decide), if_neg (show ¬ nI 25 = 13 by decide), if_neg (show ¬ nI 25 = 14 by decide), if_neg (show ¬ nI 25 = 15 by decide), if_neg (show ¬ nI 25 = 19 by decide), if_neg (show ¬ nI 25 = 23 by decide), if_pos (show nI 25 = 25 from rfl)]
    exact rv_c h (by decide)
  · rw [if_neg (show ¬ nI 27 = 1 by decide), if_neg (show ¬ nI 27 = 5 by decide), if_neg (show ¬ nI 27 = 7 by decide), if_neg (show ¬ nI 27 = 8 by decide), if_neg (show ¬ nI 27 = 11 by decide), if_neg (show ¬ nI 27 = 13 by decide), if_neg (show ¬ nI 27 = 15 by decide), if_neg (show ¬ nI 27 = 24 by decide), if_neg (show ¬ nI 27 = 25 by decide), if_pos (show nI 27 = 27 from rfl)]
    rw [if_neg (show ¬ nI 27 = 1 by decide), if_neg (show ¬ nI 27 = 5 by decide), if_neg (show ¬ nI 27 = 6 by decide), if_neg (show ¬ nI 27 = 7 by decide), if_neg (show ¬ nI 27 = 8 by decide), if_neg (show ¬ nI 27 = 11 by decide), if_neg (show ¬ nI 27 = 13 by decide), if_neg (show ¬ nI 27 = 14 by decide), if_neg (show ¬ nI 27 = 15 by decide), if_neg (show ¬ nI 27 = 19 by decide), if_neg (show ¬ nI 27 = 23 by decide), if_neg (show ¬ nI 27 = 25 by decide), if_pos (show nI 27 = 27 from rfl)]
    exact rv_l h (by decide)
  · rw [if_neg (show ¬ nI 31 = 1 by decide), if_neg (show ¬ nI 31 = 5 by decide), if_neg (show ¬ nI 31 = 7 by decide), if_neg (show ¬ nI 31 = 8 by decide), if_neg (show ¬ nI 31 = 11 by decide), if_neg (show ¬ nI 31 = 13 by decide), if_neg (show ¬ nI 31 = 15 by decide), if_neg (show ¬ nI 31 = 24 by decide), if_neg (show ¬ nI 31 = 25 by decide), if_neg (show ¬ nI 31 = 27 by decide), if_neg (show ¬ nI 31 = 33 by decide), if_neg (show ¬ nI 31 = 35 by decide), if_neg (show ¬ nI 31 = 37 by decide)]
    rw [if_neg (show ¬ nI 31 = 1 by decide), if_neg (show ¬ nI 31 = 5 by decide), if_neg (show ¬ nI 31 = 6 by decide), if_neg (show ¬ nI 31 = 7 by decide), if_neg (show ¬ nI 31 = 8 by decide), if_neg (show ¬ nI 31 = 11 by decide), if_neg (show ¬ nI 31 = 13 by decide), if_neg (show ¬ nI 31 = 14 by decide), if_neg (show ¬ nI 31 = 15 by decide), if_neg (show ¬ nI 31 = 19 by decide), if_neg (show ¬ nI 31 = 23 by decide), if_neg (show ¬ nI 31 = 25 by decide), if_neg (show ¬ nI 31 = 27 by decide), if_pos (show nI 31 = 31 from rfl)]
    exact rv_u (m := 4) h (by omega) (by omega) (by decide)
  · rw [if_neg (show ¬ nI 33 = 1 by decide), if_neg (show ¬ nI 33 = 5 by decide), if_neg (show ¬ nI 33 = 7 by decide), if_neg (show ¬ nI 33 = 8 by decide), if_neg (show ¬ nI 33 = 11 by decide), if_neg (show ¬ nI 33 = 13 by decide), if_neg (show ¬ nI 33 = 15 by decide), if_neg (show ¬ nI 33 = 24 by decide), if_neg (show ¬ nI 33 = 25 by decide), if_neg (show ¬ nI 33 = 27 by decide), if_pos (show nI 33 = 33 from rfl)]
    rw [if_neg (show ¬ nI 33 = 1 by decide), if_neg (show ¬ nI 33 = 5 by decide), if_neg (show ¬ nI 33 = 6 by decide), if_neg (show ¬ nI 33 = 7 by decide), if_neg (show ¬ nI 33 = 8 by decide), if_neg (show ¬ nI 33 = 11 by decide), if_neg (show ¬ nI 33 = 13 by decide), if_neg (show ¬ nI 33 = 14 by decide), if_neg (show ¬ nI 33 = 15 by decide), if_neg (show ¬ nI 33 = 19 by decide), if_neg (show ¬ nI 33 = 23 by decide), if_neg (show ¬ nI 33 = 25 by decide), if_neg (show ¬ nI 33 = 27 by decide), if_neg (show ¬ nI 33 = 31 by decide), if_pos (show nI 33 = 33 from rfl)]
    exact rv_c h (by decide)
  · rw [if_neg (show ¬ nI 35 = 1 by decide), if_neg (show ¬ nI 35 = 5 by decide), if_neg (show ¬ nI 35 = 7 by decide), if_neg (show ¬ nI 35 = 8 by decide), if_neg (show ¬ nI 35 = 11 by decide), if_neg (show ¬ nI 35 = 13 by decide), if_neg (show ¬ nI 35 = 15 by decide), if_neg (show ¬ nI 35 = 24 by decide), if_neg (show ¬ nI 35 = 25 by decide), if_neg (show ¬ nI 35 = 27 by decide), if_neg (show ¬ nI 35 = 33 by decide), if_pos (show nI 35 = 35 from rfl)]
    rw [if_neg (show ¬ nI 35 = 1 by decide), if_neg (show ¬ nI 35 = 5 by decide), if_neg (show ¬ nI 35 = 6 by decide), if_neg (show ¬ nI 35 = 7 by decide), if_neg (show ¬ nI 35 = 8 by decide), if_neg (show ¬ nI 35 = 11 by decide), if_neg (show ¬ nI 35 = 13 by decide), if_neg (show ¬ nI 35 = 14 by decide), if_neg (show ¬ nI 35 = 15 by decide), if_neg (show ¬ nI 35 = 19 by decide), if_neg (show ¬ nI 35 = 23 by decide), if_neg (show ¬ nI 35 = 25 by decide), if_neg (show ¬ nI 35 = 27 by decide), if_neg (show ¬ nI 35 = 31 by decide), if_neg (show ¬ nI 35 = 33 by decide), if_pos (show nI 35 = 35 from rfl)]
    exact rv_l h (by decide)
  · rw [if_neg (show ¬ nI 37 = 1 by decide), if_neg (show ¬ nI 37 = 5 by decide), if_neg (show ¬ nI 37 = 7 by decide), if_neg (show ¬ nI 37 = 8 by decide), if_neg (show ¬ nI 37 = 11 by decide), if_neg (show ¬ nI 37 = 13 by decide), if_neg (show ¬ nI 37 = 15 by decide), if_neg (show ¬ nI 37 = 24 by decide), if_neg (show ¬ nI 37 = 25 by decide), if_neg (show ¬ nI 37 = 27 by decide), if_neg (show ¬ nI 37 = 33 by decide), if_neg (show ¬ nI 37 = 35 by decide), if_pos (show nI 37 = 37 from rfl)]
    rw [if_neg (show ¬ nI 37 = 1 by decide), if_neg (show ¬ nI 37 = 5 by decide), if_neg (show ¬ nI 37 = 6 by decide), if_neg (show ¬ nI 37 = 7 by decide), if_neg (show ¬ nI 37 = 8 by decide), if_neg (show ¬ nI 37 = 11 by decide), if_neg (show ¬ nI 37 = 13 by decide), if_neg (show ¬ nI 37 = 14 by decide), if_neg (show ¬ nI 37 = 15 by decide), if_neg (show ¬ nI 37 = 19 by decide), if_neg (show ¬ nI 37 = 23 by decide), if_neg (show ¬ nI 37 = 25 by decide), if_neg (show ¬ nI 37 = 27 by decide), if_neg (show ¬ nI 37 = 31 by decide), if_neg (show ¬ nI 37 = 33 by decide), if_neg (show ¬ nI 37 = 35 by decide), if_pos (show nI 37 = 37 from rfl)]
    exact rv_u (m := 1) h (by omega) (by omega) (by decide)
