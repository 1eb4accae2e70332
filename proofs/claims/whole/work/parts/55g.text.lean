/-! a text in a section: where it begins, if it is there and ends there -/
def txt (B : Nat → Int32) (a b : Nat) (x : Int64) : Option Nat := if x < 0 ∨ lN (b - a) < x then none else
  match tEnd B (b - (a + x.toInt.toNat)) (a + x.toInt.toNat) with
  | some _ => some (a + x.toInt.toNat)
  | none => none
theorem txt_in {B : Nat → Int32} {a b n : Nat} (hb : b ≤ 3000) (hn : a + n ≤ b) : txt B a b (lN n) = match tEnd B (b - (a + n)) (a + n) with
    | some _ => some (a + n)
    | none => none := by
  obtain ⟨a1, a2⟩ := in_not (n := n) (d := b - a) (by omega) (by omega)
  unfold txt
  rw [if_neg (fun z => z.elim a1 a2), lN_toInt (by omega)]
  rfl
theorem txt_out {B : Nat → Int32} {a b : Nat} {x : Int64} (h : x < 0 ∨ lN (b - a) < x) : txt B a b x = none := by
  unfold txt
  rw [if_pos h]
theorem txt_lt {B : Nat → Int32} {a b p : Nat} {x : Int64} (hb : b ≤ 3000) (hab : a ≤ b) (h : txt B a b x = some p) : a ≤ p ∧ p < b ∧ ∃ e, tEnd B (b - p) p = some e := by
  by_cases c : x < 0 ∨ lN (b - a) < x
  · rw [txt_out c] at h
    cases h
  · obtain ⟨n, h1, rfl⟩ := in_pos (by omega) c
    rw [txt_in hb (by omega)] at h
    cases ht : tEnd B (b - (a + n)) (a + n) with
    | none => rw [ht] at h; cases h
    | some e =>
      rw [ht] at h
      cases h
      have := tEnd_lt ht
      exact ⟨by omega, by omega, e, ht⟩
theorem nI_ne {n : Nat} (h : n < 2 ^ 31) : ¬ nI n = -1 := fun z => absurd (z ▸ nI_pos h) (by decide)
theorem ta_ok {s a b : Nat} {x : Int64} {σ : am_S} (hs : s < 10) (h6 : σ.2.1 6 s = nI a) (h7 : σ.2.1 7 s = nI b) (hab : a ≤ b) (hb : b ≤ 3000) : ∃ σ', g_Se_textAt (nI s) x σ = some (match txt (σ.2.1 1) a b x with | some p => nI p | none => -1, σ') := by
  unfold g_Se_textAt g_Se_textAt_35
  by_cases c : x < 0 ∨ lN (b - a) < x
  · rw [po_bad hs h6 h7 hab hb c, bd_t, txt_out c]
    have hc : ¬ (am_fi (am_fi (am_fi σ 9 1 (nI b)) 9 2 (nI b)) 9 3 1).1.1 9 3 = 0 := by rw [fi_at]; decide
    have e : g_Cu_text 9 (am_fi (am_fi (am_fi σ 9 1 (nI b)) 9 2 (nI b)) 9 3 1) = some (nI b, am_fi (am_fi (am_fi (am_fi σ 9 1 (nI b)) 9 2 (nI b)) 9 3 1) 9 3 1) := by
      unfold g_Cu_text
      have e1 : (am_fi (am_fi (am_fi σ 9 1 (nI b)) 9 2 (nI b)) 9 3 1).1.1 9 1 = nI b := by rw [fi_no (by omega), fi_no (by omega), fi_at]
      have e2 : (am_fi (am_fi (am_fi σ 9 1 (nI b)) 9 2 (nI b)) 9 3 1).1.1 9 2 = nI b := by rw [fi_no (by omega), fi_at]
      rw [show (4000 : Nat) = 3999 + 1 from rfl, g_Cu_text_10, e1, e2, if_neg (Int32.not_lt.mpr (nI_le (Nat.le_refl _) (by omega)))]
      rfl
    rw [e, bd_t, if_neg (by rw [fi_at]; decide)]
    exact ⟨_, rfl⟩
  · obtain ⟨n, h1, rfl⟩ := in_pos (by omega) c
    rw [po_ok hs h6 h7 hb (by omega), bd_t, gt_ok (CU_0 (by omega) hb), txt_in hb (by omega)]
    have eb : (am_fi (am_fi (am_fi σ 9 1 (nI (a + n))) 9 2 (nI b)) 9 3 0).2.1 1 = σ.2.1 1 := rfl
    rw [eb]
    cases ht : tEnd (σ.2.1 1) (b - (a + n)) (a + n) with
    | some e =>
      show ∃ σ', am_bd (some (nI (a + n), _)) _ = _
      rw [bd_t, if_pos (by rw [fi_no (by omega), fi_at])]
      exact ⟨_, rfl⟩
    | none =>
      show ∃ σ', am_bd (some (nI (a + n), _)) _ = _
      rw [bd_t, if_neg (by rw [fi_at]; decide)]
      exact ⟨_, rfl⟩
theorem ti_ok {s a b : Nat} {x : Int64} {σ : am_S} (hs : s < 10) (h3 : σ.2.1 3 s = nI a) (h4 : σ.2.1 4 s = nI (b - a)) (hab : a ≤ b) (hb : b ≤ 3000) : g_Mo_textIn (nI s) x σ = some (match txt (σ.2.1 2) a b x with | some p => nI p | none => -1, σ) := by
  unfold g_Mo_textIn g_Mo_textIn_43 g_Mo_textIn_44
  have e1 : g_Mo_placeIn (nI s) x 1 σ = g_Mo_placeIn (nI s) x (nI 1) σ := rfl
  rw [e1]
  by_cases c : ∃ n, x = lN n ∧ a + n + 1 ≤ b
  · obtain ⟨n, rfl, hn⟩ := c
    rw [pi_ok (d := b - a) hs h3 h4 (by omega) (by decide) (by omega), bd_t, if_neg (nI_ne (n := a + n) (by omega)), inb_nI hs (by decide), gd_t, gd_t, nI_clamp (by omega), h3, h4, nI_add, show a + (b - a) = b by omega, te_ok (by omega) hb, txt_in hb (by omega)]
    cases ht : tEnd (σ.2.1 2) (b - (a + n)) (a + n) with
    | some e =>
      have := tEnd_lt ht
      show am_bd (some (nI e, σ)) _ = _
      rw [bd_t, if_neg (nI_ne (n := e) (by omega))]
    | none =>
      show am_bd (some (-1, σ)) _ = _
      rw [bd_t, if_pos rfl]
  · rw [pi_no (d := b - a) (m := 1) hs h4 (by omega) (by decide) (fun n e _ => by
      by_cases hz : a + n + 1 ≤ b
      · exact absurd ⟨n, e, hz⟩ c
      · omega) (x3000 x), bd_t, if_pos rfl]
    have : txt (σ.2.1 2) a b x = none := by
      by_cases c2 : x < 0 ∨ lN (b - a) < x
      · exact txt_out c2
      · obtain ⟨n, h1, rfl⟩ := in_pos (by omega) c2
        have hn : a + n = b := by
          by_cases hz : a + n + 1 ≤ b
          · exact absurd ⟨n, rfl, hz⟩ c
          · omega
        rw [txt_in hb (by omega), hn, Nat.sub_self]
        rfl
    rw [this]
