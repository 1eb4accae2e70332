/-! the two cursors at the same place -/
def RG (k : Nat) (σ τ : am_S) (p q : Nat) : Prop := CU σ k p q false ∧ RU τ p q false ∧ σ.2.1 1 = τ.2.1 2
def BD (k : Nat) (σ τ : am_S) : Prop := ¬ σ.1.1 k 3 = 0 ∧ ¬ τ.1.1 0 8 = 0
/-- what reading leaves: both further on and the same number, or both bad -/
def OUT (k p q : Nat) (σ τ : am_S) (v : Int64) (s : am_S) (w : Int64) (t : am_S) : Prop := FR [(k, 1), (k, 3)] [] σ s ∧ FR [(0, 6), (0, 8)] [] τ t ∧ ((∃ p', p < p' ∧ p' ≤ q ∧ RG k s t p' q ∧ v = w) ∨ (BD k s t ∧ v = 0))
theorem RG_b {k p q : Nat} {σ τ : am_S} (h : RG k σ τ p q) : σ.2.1 1 = τ.2.1 2 := h.2.2
theorem RG_q {k p q : Nat} {σ τ : am_S} (h : RG k σ τ p q) : p ≤ q ∧ q ≤ 3000 := ⟨h.1.2.2.2.1, h.1.2.2.2.2⟩
theorem RG_3 {k p q : Nat} {σ τ : am_S} (h : RG k σ τ p q) : σ.1.1 k 3 = 0 := h.1.2.2.1
theorem RG_8 {k p q : Nat} {σ τ : am_S} (h : RG k σ τ p q) : τ.1.1 0 8 = 0 := h.2.1.2.2.1
theorem CU_fr {k p q : Nat} {b : Bool} {W : List (Nat × Nat)} {A : List Nat} {σ s : am_S} (h : CU σ k p q b) (f : FR W A σ s) (n1 : W.contains (k, 1) = false) (n2 : W.contains (k, 2) = false) (n3 : W.contains (k, 3) = false) : CU s k p q b := ⟨(fr_i f n1).trans h.1, (fr_i f n2).trans h.2.1, (fr_i f n3).trans h.2.2.1, h.2.2.2.1, h.2.2.2.2⟩
theorem RU_fr {p q : Nat} {b : Bool} {W : List (Nat × Nat)} {A : List Nat} {σ s : am_S} (h : RU σ p q b) (f : FR W A σ s) (n1 : W.contains (0, 6) = false) (n2 : W.contains (0, 7) = false) (n3 : W.contains (0, 8) = false) : RU s p q b := ⟨(fr_i f n1).trans h.1, (fr_i f n2).trans h.2.1, (fr_i f n3).trans h.2.2.1, h.2.2.2.1, h.2.2.2.2⟩
theorem RG_fr {k p q : Nat} {W W' : List (Nat × Nat)} {A A' : List Nat} {σ τ s t : am_S} (h : RG k σ τ p q) (f : FR W A σ s) (g : FR W' A' τ t) (n : (W.contains (k, 1) || W.contains (k, 2) || W.contains (k, 3) || A.contains 1 || W'.contains (0, 6) || W'.contains (0, 7) || W'.contains (0, 8) || A'.contains 2) = false) : RG k s t p q := by
  simp only [Bool.or_eq_false_iff] at n
  obtain ⟨⟨⟨⟨⟨⟨⟨n1, n2⟩, n3⟩, n4⟩, n5⟩, n6⟩, n7⟩, n8⟩ := n
  exact ⟨CU_fr h.1 f n1 n2 n3, RU_fr h.2.1 g n5 n6 n7, (fr_b f n4).trans (h.2.2.trans (fr_b g n8).symm)⟩
theorem BD_fr {k : Nat} {W W' : List (Nat × Nat)} {A A' : List Nat} {σ τ s t : am_S} (h : BD k σ τ) (f : FR W A σ s) (g : FR W' A' τ t) (n : (W.contains (k, 3) || W'.contains (0, 8)) = false) : BD k s t := by
  simp only [Bool.or_eq_false_iff] at n
  exact ⟨by rw [fr_i f n.1]; exact h.1, by rw [fr_i g n.2]; exact h.2⟩
theorem xu {k p q m : Nat} {σ τ : am_S} (h : RG k σ τ p q) (h1 : 1 ≤ m) (h8 : m ≤ 8) : R2 (g_Cu_number k (nI m) σ) (g_Mo_u (nI m) τ) (fun v s w t => FR [(k, 1), (k, 3)] [] σ s ∧ FR [(0, 6), (0, 8)] [] τ t ∧ ((p + m ≤ q ∧ RG k s t (p + m) q ∧ v = lN (num (σ.2.1 1) p m) ∧ w = lN (num (σ.2.1 1) p m)) ∨ (BD k s t ∧ v = 0 ∧ w = 0))) := by
  by_cases c : p + m ≤ q
  · refine ⟨_, _, _, _, gn_ok h.1 h8 c, ru_ok h.2.1 h8 c, fr_fi fr_rf (by simp), fr_fi fr_rf (by simp), Or.inl ⟨c, ⟨CU_1' h.1 c, RU_1' h.2.1 c, h.2.2⟩, rfl, by rw [h.2.2]⟩⟩
  · refine ⟨_, _, _, _, gn_bad h.1 h8 (Or.inr (by omega)), ru_bad h.2.1 h8 (Or.inr (by omega)), fr_fi fr_rf (by simp), fr_fi fr_rf (by simp), Or.inr ⟨⟨by rw [fi_at]; decide, by rw [fi_at]; decide⟩, rfl, rfl⟩⟩
theorem xl {k p q : Nat} {σ τ : am_S} {sg : Bool} (h : RG k σ τ p q) : R2 (g_Cu_leb k (if sg then 1 else 0) σ) (g_Mo_leb (if sg then 1 else 0) τ) (OUT k p q σ τ) := by
  have hb := h.2.2
  cases hr : rdL (σ.2.1 1) q sg 10 0 0 p with
  | some r =>
    obtain ⟨w, p'⟩ := r
    have hle := rdL_le hr
    refine ⟨_, _, _, _, gl_ok h.1 hr, ml_ok h.2.1 (by rw [← hb]; exact hr), fr_fi fr_rf (by simp), fr_fi fr_rf (by simp), Or.inl ⟨p', hle.1, hle.2, ⟨CU_1' h.1 hle.2, RU_1' h.2.1 hle.2, hb⟩, rfl⟩⟩
  | none =>
    obtain ⟨p1, _, _, e1⟩ := gl_bad h.1 hr
    obtain ⟨w, p2, _, _, e2⟩ := ml_bad (sg := sg) h.2.1 (by rw [← hb]; exact hr)
    exact ⟨_, _, _, _, e1, e2, fr_fi (fr_fi fr_rf (by simp)) (by simp), fr_fi (fr_fi fr_rf (by simp)) (by simp), Or.inr ⟨⟨by rw [fi_at]; decide, by rw [fi_at]; decide⟩, rfl⟩⟩
theorem xul {k p q : Nat} {σ τ : am_S} (h : RG k σ τ p q) : R2 (g_Cu_uleb k σ) (g_Mo_leb 0 τ) (OUT k p q σ τ) := by
  obtain ⟨v, s, w, t, e1, e2, P⟩ := xl (sg := false) h
  refine ⟨v, s, w, t, ?_, e2, P⟩
  unfold g_Cu_uleb
  rw [show g_Cu_leb k 0 σ = some (v, s) from e1, bd_t]
theorem xsl {k p q : Nat} {σ τ : am_S} (h : RG k σ τ p q) : R2 (g_Cu_sleb k σ) (g_Mo_leb 1 τ) (OUT k p q σ τ) := by
  obtain ⟨v, s, w, t, e1, e2, P⟩ := xl (sg := true) h
  refine ⟨v, s, w, t, ?_, e2, P⟩
  unfold g_Cu_sleb
  rw [show g_Cu_leb k 1 σ = some (v, s) from e1, bd_t]
/-! once bad, always bad -/
theorem bn {k : Nat} {m : Int32} {σ : am_S} (h : ¬ σ.1.1 k 3 = 0) : g_Cu_number k m σ = some (0, am_fi σ k 3 1) := by
  unfold g_Cu_number g_Cu_number_20
  rw [if_neg h]
theorem bul {k : Nat} {σ : am_S} (h : ¬ σ.1.1 k 3 = 0) : g_Cu_uleb k σ = some (0, am_fi σ k 3 1) := by
  unfold g_Cu_uleb
  rw [gl_off h, bd_t]
theorem bsl {k : Nat} {σ : am_S} (h : ¬ σ.1.1 k 3 = 0) : g_Cu_sleb k σ = some (0, am_fi σ k 3 1) := by
  unfold g_Cu_sleb
  rw [gl_off h, bd_t]
theorem bsk {k : Nat} {x : Int64} {σ : am_S} (h : ¬ σ.1.1 k 3 = 0) : g_Cu_skip k x σ = some ((), am_fi σ k 3 1) := by
  unfold g_Cu_skip g_Cu_skip_28 g_Cu_skip_47
  rw [if_neg h]
theorem bmu {m : Int32} {τ : am_S} (h : ¬ τ.1.1 0 8 = 0) : g_Mo_u m τ = some (0, am_fi τ 0 8 1) := by
  unfold g_Mo_u g_Mo_u_20
  rw [if_neg h]
theorem bml {x : Int32} {τ : am_S} (h : ¬ τ.1.1 0 8 = 0) : ∃ w, g_Mo_leb x τ = some (w, τ) := by
  unfold g_Mo_leb
  rw [l10_off (Or.inr h)]
  exact l83
theorem bmp {x : Int64} {τ : am_S} (h : ¬ τ.1.1 0 8 = 0) : g_Mo_pass x τ = some ((), am_fi (am_fi τ 0 8 1) 0 6 (τ.1.1 0 6)) := by
  unfold g_Mo_pass g_Mo_pass_29 g_Mo_pass_34 g_Mo_pass_59
  rw [if_neg h]
  rfl
theorem bmt {τ : am_S} (h : ¬ τ.1.1 0 8 = 0) : g_Mo_text τ = some (τ.1.1 0 6, am_fi (am_fi τ 0 8 1) 0 6 (τ.1.1 0 6)) := by
  unfold g_Mo_text g_Mo_text_28 g_Mo_text_40 g_Mo_text_61
  rw [if_neg h, if_pos rfl]
  rfl
/-- .. said of the class's cursor and of the reference's -/
theorem R1n {k : Nat} {m : Int32} {σ : am_S} (h : ¬ σ.1.1 k 3 = 0) : R1 (g_Cu_number k m σ) (fun v s => v = 0 ∧ ¬ s.1.1 k 3 = 0 ∧ FR [(k, 1), (k, 3)] [] σ s) := ⟨_, _, bn h, rfl, by rw [fi_at]; decide, fr_fi fr_rf (by simp)⟩
theorem R1ul {k : Nat} {σ : am_S} (h : ¬ σ.1.1 k 3 = 0) : R1 (g_Cu_uleb k σ) (fun v s => v = 0 ∧ ¬ s.1.1 k 3 = 0 ∧ FR [(k, 1), (k, 3)] [] σ s) := ⟨_, _, bul h, rfl, by rw [fi_at]; decide, fr_fi fr_rf (by simp)⟩
theorem R1sl {k : Nat} {σ : am_S} (h : ¬ σ.1.1 k 3 = 0) : R1 (g_Cu_sleb k σ) (fun v s => v = 0 ∧ ¬ s.1.1 k 3 = 0 ∧ FR [(k, 1), (k, 3)] [] σ s) := ⟨_, _, bsl h, rfl, by rw [fi_at]; decide, fr_fi fr_rf (by simp)⟩
theorem R1sk {k : Nat} {x : Int64} {σ : am_S} (h : ¬ σ.1.1 k 3 = 0) : R1 (g_Cu_skip k x σ) (fun _ s => ¬ s.1.1 k 3 = 0 ∧ FR [(k, 1), (k, 3)] [] σ s) := ⟨_, _, bsk h, by rw [fi_at]; decide, fr_fi fr_rf (by simp)⟩
theorem R1t {k : Nat} {σ : am_S} (h : ¬ σ.1.1 k 3 = 0) : R1 (g_Cu_text k σ) (fun _ s => ¬ s.1.1 k 3 = 0 ∧ FR [(k, 1), (k, 3)] [] σ s) := ⟨_, _, gt_off h, by rw [fi_at]; decide, fr_fi fr_rf (by simp)⟩
theorem R1mu {m : Int32} {τ : am_S} (h : ¬ τ.1.1 0 8 = 0) : R1 (g_Mo_u m τ) (fun v t => v = 0 ∧ ¬ t.1.1 0 8 = 0 ∧ FR [(0, 6), (0, 8)] [] τ t) := ⟨_, _, bmu h, rfl, by rw [fi_at]; decide, fr_fi fr_rf (by simp)⟩
theorem R1ml {x : Int32} {τ : am_S} (h : ¬ τ.1.1 0 8 = 0) : R1 (g_Mo_leb x τ) (fun _ t => ¬ t.1.1 0 8 = 0 ∧ t = τ) := by
  obtain ⟨w, e⟩ := bml (x := x) h
  exact ⟨_, _, e, h, rfl⟩
theorem R1mp {x : Int64} {τ : am_S} (h : ¬ τ.1.1 0 8 = 0) : R1 (g_Mo_pass x τ) (fun _ t => ¬ t.1.1 0 8 = 0 ∧ FR [(0, 6), (0, 8)] [] τ t) := ⟨_, _, bmp h, by rw [fi_no (Or.inl (by decide)), fi_at]; decide, fr_fi (fr_fi fr_rf (by simp)) (by simp)⟩
theorem R1mt {τ : am_S} (h : ¬ τ.1.1 0 8 = 0) : R1 (g_Mo_text τ) (fun _ t => ¬ t.1.1 0 8 = 0 ∧ FR [(0, 6), (0, 8)] [] τ t) := ⟨_, _, bmt h, by rw [fi_no (Or.inl (by decide)), fi_at]; decide, fr_fi (fr_fi fr_rf (by simp)) (by simp)⟩
/-! texts, passing over -/
theorem mt_ok {p q : Nat} {τ : am_S} (h : RU τ p q false) : g_Mo_text τ = match tEnd (τ.2.1 2) (q - p) p with
    | some e => some (nI p, am_fi τ 0 6 (nI (e + 1)))
    | none => some (nI p, am_fi (am_fi τ 0 8 1) 0 6 (nI p)) := by
  obtain ⟨h1, h2, h3, hpq, hq⟩ := h
  have h3 : τ.1.1 0 8 = 0 := h3
  unfold g_Mo_text g_Mo_text_28 g_Mo_text_40 g_Mo_text_61
  rw [if_pos h3, h1, h2, te_ok hpq hq]
  cases ht : tEnd (τ.2.1 2) (q - p) p with
  | some e =>
    have := tEnd_lt ht
    show (if nI e = -1 then _ else _) = _
    rw [if_neg (nI_ne (by omega)), show nI e + 1 = nI (e + 1) from nI_add e 1, fi_same h3]
    rfl
  | none =>
    show some (nI p, am_fi (am_fi τ 0 8 1) 0 6 (τ.1.1 0 6)) = some (nI p, am_fi (am_fi τ 0 8 1) 0 6 (nI p))
    rw [h1]
theorem xt {k p q : Nat} {σ τ : am_S} (h : RG k σ τ p q) : R2 (g_Cu_text k σ) (g_Mo_text τ) (fun v s w t => FR [(k, 1), (k, 3)] [] σ s ∧ FR [(0, 6), (0, 8)] [] τ t ∧ ((∃ e, p ≤ e ∧ e < q ∧ tEnd (σ.2.1 1) (q - p) p = some e ∧ RG k s t (e + 1) q ∧ v = nI p ∧ w = nI p) ∨ BD k s t)) := by
  have hb := h.2.2
  have h1 := gt_ok h.1
  have h2 := mt_ok h.2.1
  rw [← hb] at h2
  have := RG_q h
  cases ht : tEnd (σ.2.1 1) (q - p) p with
  | some e =>
    have hl := tEnd_lt ht
    rw [ht] at h1 h2
    exact ⟨_, _, _, _, h1, h2, fr_fi fr_rf (by simp), fr_fi fr_rf (by simp), Or.inl ⟨e, by omega, by omega, rfl, ⟨CU_1' h.1 (by omega), RU_1' h.2.1 (by omega), hb⟩, rfl, rfl⟩⟩
  | none =>
    rw [ht] at h1 h2
    exact ⟨_, _, _, _, h1, h2, fr_fi fr_rf (by simp), fr_fi (fr_fi fr_rf (by simp)) (by simp), Or.inr ⟨by rw [fi_at]; decide, by rw [fi_no (Or.inl (by decide)), fi_at]; decide⟩⟩
theorem xs {k p q : Nat} {x : Int64} {σ τ : am_S} (h : RG k σ τ p q) : R2 (g_Cu_skip k x σ) (g_Mo_pass x τ) (fun _ s _ t => FR [(k, 1), (k, 3)] [] σ s ∧ FR [(0, 6), (0, 8)] [] τ t ∧ ((∃ n, p + n ≤ q ∧ x = lN n ∧ RG k s t (p + n) q) ∨ (BD k s t ∧ (x < 0 ∨ lN (q - p) < x)))) := by
  have hq := RG_q h
  by_cases c : x < 0 ∨ lN (q - p) < x
  · exact ⟨_, _, _, _, sk_bad h.1 (Or.inr c), pa_bad h.2.1 (Or.inr c), fr_fi fr_rf (by simp), fr_fi fr_rf (by simp), Or.inr ⟨⟨by rw [fi_at]; decide, by rw [fi_at]; decide⟩, c⟩⟩
  · obtain ⟨n, hn, rfl⟩ := in_pos (d := q - p) (by omega) c
    exact ⟨_, _, _, _, sk_ok h.1 (by omega), pa_ok h.2.1 (by omega), fr_fi fr_rf (by simp), fr_fi fr_rf (by simp), Or.inl ⟨n, by omega, rfl, CU_1' h.1 (by omega), RU_1' h.2.1 (by omega), h.2.2⟩⟩
/-- a section's window, a place in it -/
theorem xp {k s : Nat} {x : Int64} {σ τ : am_S} (hs : s < 10) (hS : SR σ τ) (hb : σ.2.1 1 = τ.2.1 2) : ∃ a z, a + z ≤ 3000 ∧ σ.2.1 6 s = nI a ∧ σ.2.1 7 s = nI (a + z) ∧ τ.2.1 3 s = nI a ∧ τ.2.1 4 s = nI z ∧ R2 (g_Se_point k (nI s) x σ) (g_Mo_enter (nI s) x τ) (fun _ s' _ t' => FR [(k, 1), (k, 2), (k, 3)] [] σ s' ∧ FR [(0, 6), (0, 7), (0, 8)] [] τ t' ∧ ((∃ n, n ≤ z ∧ x = lN n ∧ RG k s' t' (a + n) (a + z)) ∨ (BD k s' t' ∧ (x < 0 ∨ lN z < x)))) := by
  obtain ⟨_, a, z, h6, h7, h3, h4, hle⟩ := hS s hs
  refine ⟨a, z, hle, h6, h7, h3, h4, ?_⟩
  have h4' : τ.2.1 4 s = nI (a + z - a) := by rw [h4]; congr 1; omega
  by_cases c : x < 0 ∨ lN z < x
  · have c' : x < 0 ∨ lN (a + z - a) < x := by rw [show a + z - a = z by omega]; exact c
    have e1 := po_bad (k := k) hs h6 h7 (by omega) hle c'
    have e2 := en_bad hs h3 h4' (by omega) hle c'
    exact ⟨_, _, _, _, e1, e2, f_Se_point e1, f_Mo_enter e2, Or.inr ⟨⟨by rw [fi_at]; decide, by rw [fi_at]; decide⟩, c⟩⟩
  · obtain ⟨n, hn, rfl⟩ := in_pos (d := z) (by omega) c
    have e1 := po_ok (k := k) (n := n) hs h6 h7 hle (by omega)
    have e2 := en_ok (n := n) hs h3 h4' hle (by omega)
    exact ⟨_, _, _, _, e1, e2, f_Se_point e1, f_Mo_enter e2, Or.inl ⟨n, hn, rfl, CU_0 (by omega) hle, RU_0 (by omega) hle, hb⟩⟩
