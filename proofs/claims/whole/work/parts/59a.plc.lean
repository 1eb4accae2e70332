/-! places and numbers in sections, both sides by one function -/
def SXc (σ : am_S) (A Z : Nat → Nat) : Prop := ∀ s, s < 10 → σ.2.1 6 s = nI (A s) ∧ σ.2.1 7 s = nI (A s + Z s) ∧ A s + Z s ≤ 3000
def SXm (τ : am_S) (A Z : Nat → Nat) : Prop := ∀ s, s < 10 → τ.2.1 3 s = nI (A s) ∧ τ.2.1 4 s = nI (Z s) ∧ A s + Z s ≤ 3000
theorem SX_of {σ τ : am_S} (h : SR σ τ) : ∃ A Z, SXc σ A Z ∧ SXm τ A Z := by
  refine ⟨fun s => (τ.2.1 3 s).toNatClampNeg, fun s => (τ.2.1 4 s).toNatClampNeg, fun s hs => ?_, fun s hs => ?_⟩ <;> obtain ⟨_, a, z, h6, h7, h3, h4, hle⟩ := h s hs
  · simp only [h3, h4, nI_clamp (show a < 2 ^ 31 by omega), nI_clamp (show z < 2 ^ 31 by omega)]
    exact ⟨h6, h7, hle⟩
  · simp only [h3, h4, nI_clamp (show a < 2 ^ 31 by omega), nI_clamp (show z < 2 ^ 31 by omega)]
    exact ⟨trivial, trivial, hle⟩
def oN : Option Nat → Int32
  | some p => nI p
  | none => -1
def oL : Option Nat → Option Int64
  | some p => some (lN p)
  | none => none
def plc (a z n : Nat) (x : Int64) : Option Nat := if x < 0 ∨ lN 3000 < x then none else if x.toInt.toNat + n ≤ z then some (a + x.toInt.toNat) else none
theorem plc_lN {a z n m : Nat} (hm : m ≤ 3000) : plc a z n (lN m) = if m + n ≤ z then some (a + m) else none := by
  have h := in_not (n := m) (d := 3000) (by omega) hm
  unfold plc
  rw [if_neg (fun q => q.elim h.1 h.2), lN_toInt (by omega)]
  rfl
theorem plc_out {a z n : Nat} {x : Int64} (h : x < 0 ∨ lN 3000 < x) : plc a z n x = none := if_pos h
theorem plc_some {a z n p : Nat} {x : Int64} (h : plc a z n x = some p) : ∃ m, m ≤ 3000 ∧ x = lN m ∧ m + n ≤ z ∧ p = a + m := by
  rcases x3000 x with q | q | ⟨m, hm, rfl⟩
  · rw [plc_out (Or.inl q)] at h; cases h
  · rw [plc_out (Or.inr q)] at h; cases h
  · rw [plc_lN hm] at h
    split at h
    · cases h
      exact ⟨m, hm, rfl, by assumption, rfl⟩
    · cases h
theorem plc_none {a z n : Nat} {x : Int64} (hz : z ≤ 3000) (h : plc a z n x = none) : x < 0 ∨ lN (z - n) < x ∨ z < n := by
  rcases x3000 x with q | q | ⟨m, hm, rfl⟩
  · exact Or.inl q
  · refine Or.inr (Or.inl ?_)
    rw [Int64.lt_iff_toInt_lt, lN_toInt (by omega)] at *
    omega
  · rw [plc_lN hm] at h
    split at h
    · cases h
    · by_cases c : z < n
      · exact Or.inr (Or.inr c)
      · exact Or.inr (Or.inl ((lN_lt (by omega) (by omega)).mpr (by omega)))
theorem pl_m {s n : Nat} {x : Int64} {τ : am_S} {A Z : Nat → Nat} (h : SXm τ A Z) (hs : s < 10) (hn : n ≤ 8) : R1 (g_Mo_placeIn (nI s) x (nI n) τ) (fun v t => t = τ ∧ v = oN (plc (A s) (Z s) n x)) := by
  obtain ⟨h3, h4, hle⟩ := h s hs
  cases hp : plc (A s) (Z s) n x with
  | some p =>
    obtain ⟨m, hm, rfl, hmn, rfl⟩ := plc_some hp
    exact ⟨_, _, pi_ok hs h3 h4 (by omega) hn hmn, rfl, rfl⟩
  | none =>
    refine ⟨_, _, pi_no hs h4 (by omega) hn (fun m e hm => ?_) (x3000 x), rfl, rfl⟩
    rw [e, plc_lN hm] at hp
    split at hp
    · cases hp
    · omega
def idx (a z n : Nat) (base i : Int64) : Option Nat := if i < 0 ∨ lN 3000 < i then none else plc a z n (base + lN n * i)
theorem ix_m {s n : Nat} {b i : Int64} {τ : am_S} {A Z : Nat → Nat} (h : SXm τ A Z) (hs : s < 10) (hn : n ≤ 8) : R1 (g_Mo_indexed (nI s) b i (nI n) τ) (fun v t => t = τ ∧ v = oN (idx (A s) (Z s) n b i)) := by
  unfold g_Mo_indexed g_Mo_indexed_31 idx
  refine R1_b mi_1 (fun v t _ k => ?_)
  obtain ⟨rfl, k⟩ := k
  rcases k with ⟨rfl, k⟩ | ⟨rfl, k⟩
  · rw [if_neg i10, if_neg (show ¬ (i < 0 ∨ lN 3000 < i) from fun z => z.elim k.1 k.2), nI_l (by omega)]
    refine R1_b (pl_m h hs hn) (fun v t _ k => ?_)
    obtain ⟨rfl, rfl⟩ := k
    exact R1_p ⟨rfl, rfl⟩
  · rw [if_pos rfl, if_pos (show i < 0 ∨ lN 3000 < i from k)]
    exact R1_p ⟨rfl, rfl⟩
/-- what a reader of values leaves: its value, or bad -/
def VB (W : List (Nat × Nat)) (o : Option Int64) (σ : am_S) (w : Int64) (s : am_S) : Prop := FR W [] σ s ∧ match o with
  | some x => w = x ∧ (s.1.1 37 6 = 0 ↔ σ.1.1 37 6 = 0)
  | none => ¬ s.1.1 37 6 = 0
def VW : List (Nat × Nat) := [(9, 1), (9, 2), (9, 3), (37, 6), (39, 1), (39, 2), (39, 3)]
theorem wr_c {σ : am_S} : R1 (g_Va_wrong σ) (fun w s => VB VW none σ w s) := ⟨_, _, rfl, fr_fi fr_rf (by decide), by
  show ¬ (am_fi σ 37 6 1).1.1 37 6 = 0
  rw [fi_at]; decide⟩
theorem tx_c {s : Nat} {x : Int64} {σ : am_S} {A Z : Nat → Nat} (h : SXc σ A Z) (hs : s < 10) : R1 (g_Va_textAt (nI s) x σ) (fun w t => VB VW (oL (txt (σ.2.1 1) (A s) (A s + Z s) x)) σ w t) := by
  obtain ⟨h6, h7, hle⟩ := h s hs
  obtain ⟨σ', e⟩ := ta_ok (x := x) hs h6 h7 (by omega) hle
  have f := f_Se_textAt e
  unfold g_Va_textAt g_Va_textAt_27
  rw [e, bd_t]
  cases ht : txt (σ.2.1 1) (A s) (A s + Z s) x with
  | some p =>
    have := txt_lt hle (by omega) ht
    show R1 (if nI p = -1 then _ else _) _
    rw [if_neg (nI_ne (by omega)), nI_l (by omega)]
    exact R1_p ⟨fr_up f (by decide) (fun _ h => h), rfl, by rw [fr_i f (by decide)]⟩
  | none =>
    show R1 (if (-1 : Int32) = -1 then _ else _) _
    rw [if_pos rfl]
    refine R1_b wr_c (fun w t _ k => R1_p ⟨fr_tr (fr_up f (by decide) (fun _ h => h)) k.1, k.2⟩)
theorem na_c {s n : Nat} {b i : Int64} {σ : am_S} {A Z : Nat → Nat} (h : SXc σ A Z) (hs : s < 10) (h1 : 1 ≤ n) (hn : n ≤ 8) : R1 (g_Va_numberAt (nI s) b i (nI n) σ) (fun w t => VB VW ((idx (A s) (Z s) n b i).map (fun p => lN (num (σ.2.1 1) p n))) σ w t) := by
  obtain ⟨h6, h7, hle⟩ := h s hs
  unfold g_Va_numberAt g_Va_numberAt_16 g_Va_numberAt_70 g_Va_numberAt_75 idx
  have out : (i < 0 ∨ lN 3000 < i) → R1 (am_bd (g_Va_wrong σ) fun v2 σ2 => some (v2, σ2)) (fun w t => VB VW none σ w t) := fun _ => R1_b wr_c (fun w t _ k => R1_p k)
  by_cases c1 : i < 0
  · rw [if_pos ((cmp_lt _ _).mpr c1), if_pos (Or.inl c1)]
    exact out (Or.inl c1)
  · rw [if_neg (fun z => c1 ((cmp_lt _ _).mp z))]
    by_cases c2 : lN 3000 < i
    · rw [if_pos (show 0 < lg_cmp i 3000 from (cmp_gt _ _).mpr c2), if_pos (Or.inr c2)]
      exact out (Or.inr c2)
    · rw [if_neg (show ¬ 0 < lg_cmp i 3000 from fun z => c2 ((cmp_gt _ _).mp z)), if_neg (fun z => z.elim c1 c2), nI_l (by omega), Int64.mul_comm]
      cases hp : plc (A s) (Z s) n (b + lN n * i) with
      | some p =>
        obtain ⟨m, hm, e, hmn, rfl⟩ := plc_some hp
        rw [e]
        have e1 := po_ok (k := 39) (n := m) hs h6 h7 hle (by omega)
        have g1 := f_Se_point e1
        rw [e1, bd_t]
        have e2 := gn_ok (CU_0 (σ := σ) (k := 39) (p := A s + m) (q := A s + Z s) (by omega) hle) hn (by omega)
        have g2 := f_Cu_number e2
        rw [e2, bd_t]
        have F := fr_tr (fr_up (W' := VW) (A' := []) g1 (by decide) (fun _ h => h)) (fr_up g2 (by decide) (fun _ h => h))
        have e37 : (am_fi (am_fi (am_fi (am_fi σ 39 1 (nI (A s + m))) 39 2 (nI (A s + Z s))) 39 3 0) 39 1 (nI (A s + m + n))).1.1 37 6 = σ.1.1 37 6 := by
          rw [fi_no (Or.inl (by decide)), fi_no (Or.inl (by decide)), fi_no (Or.inl (by decide)), fi_no (Or.inl (by decide))]
        have e39 : (am_fi (am_fi (am_fi (am_fi σ 39 1 (nI (A s + m))) 39 2 (nI (A s + Z s))) 39 3 0) 39 1 (nI (A s + m + n))).1.1 39 3 = 0 := by
          rw [fi_no (Or.inl (by decide)), fi_at]
        rw [e37]
        by_cases cb : σ.1.1 37 6 = 0
        · rw [if_pos cb, if_pos e39]
          refine R1_p ⟨fr_fi F (by decide), rfl, ?_⟩
          rw [fi_at, cb]
        · rw [if_neg cb]
          refine R1_p ⟨fr_fi F (by decide), rfl, ?_⟩
          rw [fi_at]
          exact ⟨fun z => absurd z (by decide), fun z => absurd z cb⟩
      | none =>
        have hn0 := plc_none (by omega) hp
        have key : ∀ s1, FR VW [] σ s1 → ¬ s1.1.1 39 3 = 0 → R1 (if s1.1.1 37 6 = 0 then if s1.1.1 39 3 = 0 then am_gd (z01 0) (some ((0 : Int64), am_fi s1 37 6 0)) else am_gd (z01 1) (some (0, am_fi s1 37 6 1)) else am_gd (z01 1) (some (0, am_fi s1 37 6 1))) (fun w t => VB VW none σ w t) := fun s1 F hb => by
          rw [if_neg hb]
          simp only [ite_self]
          refine R1_p ⟨fr_fi F (by decide), ?_⟩
          show ¬ (am_fi s1 37 6 1).1.1 37 6 = 0
          rw [fi_at]; decide
        by_cases c3 : b + lN n * i < 0 ∨ lN (A s + Z s - A s) < b + lN n * i
        · have e1 := po_bad (k := 39) hs h6 h7 (by omega) hle c3
          have g1 := f_Se_point e1
          rw [e1, bd_t]
          have hb : ¬ (am_fi (am_fi (am_fi σ 39 1 (nI (A s + Z s))) 39 2 (nI (A s + Z s))) 39 3 1).1.1 39 3 = 0 := by rw [fi_at]; decide
          rw [bn hb, bd_t]
          exact key _ (fr_fi (fr_up g1 (by decide) (fun _ h => h)) (by decide)) (by rw [fi_at]; decide)
        · obtain ⟨m, hm, e⟩ := in_pos (d := A s + Z s - A s) (by omega) c3
          have hm' : Z s < m + n := by
            rw [e, plc_lN (by omega)] at hp
            split at hp
            · cases hp
            · omega
          rw [e]
          have e1 := po_ok (k := 39) (n := m) hs h6 h7 hle (by omega)
          have g1 := f_Se_point e1
          rw [e1, bd_t]
          have e2 := gn_bad (m := n) (CU_0 (σ := σ) (k := 39) (p := A s + m) (q := A s + Z s) (by omega) hle) hn (Or.inr (by omega))
          have g2 := f_Cu_number e2
          rw [e2, bd_t]
          exact key _ (fr_tr (fr_up g1 (by decide) (fun _ h => h)) (fr_up g2 (by decide) (fun _ h => h))) (by rw [fi_at]; decide)
