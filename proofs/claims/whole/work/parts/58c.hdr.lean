/-! the sections' own heads -/
theorem lNe {x c : Nat} (h : x < 2 ^ 63) (hc : c < 2 ^ 63) : lN x = lN c ↔ x = c := by
  rw [← Int64.toInt_inj, pk_lT h, pk_lT hc]
  omega
theorem lNl {x c : Nat} (h : x < 2 ^ 63) (hc : c < 2 ^ 63) : lN x < lN c ↔ x < c := by
  rw [Int64.lt_iff_toInt_lt, pk_lT h, pk_lT hc]
  omega
abbrev kN (B : Nat → Int32) (p : Nat) : Prop := num B (p + 4) 4 = 8
def LIE (B : Nat → Int32) (len p : Nat) : Prop := kN B p ∨ num B (p + 24) 8 + num B (p + 32) 8 ≤ len
def sF (B : Nat → Int32) (p : Nat) : Nat := if kN B p then 0 else num B (p + 24) 8
def sZ (B : Nat → Int32) (p : Nat) : Nat := if kN B p then 0 else num B (p + 32) 8
theorem LIE_le {B : Nat → Int32} {len p : Nat} (h : LIE B len p) : sF B p + sZ B p ≤ len := by
  unfold sF sZ
  by_cases c : kN B p
  · rw [if_pos c, if_pos c]; omega
  · rw [if_neg c, if_neg c]
    rcases h with h | h
    · exact absurd h c
    · exact h
theorem li_1 {x y len : Nat} (hx : x < 2 ^ 64) (hy : y < 2 ^ 64) (hl : len ≤ 3000) : (¬ lN x < 0 ∧ ¬ lN len < lN x ∧ ¬ lN y < 0 ∧ ¬ (lN len - lN x) < lN y) ↔ x + y ≤ len := by
  have z : (0 : Int64).toInt = 0 := by decide
  have e1 : (¬ lN x < 0 ∧ ¬ lN len < lN x) ↔ x ≤ len := by
    rw [Int64.lt_iff_toInt_lt, Int64.lt_iff_toInt_lt, lN_ti hx, lN_toInt (n := len) (by omega), z]
    split <;> omega
  constructor
  · intro h
    have hx' := e1.mp ⟨h.1, h.2.1⟩
    have h3 := h.2.2
    rw [lN_sub hx', Int64.lt_iff_toInt_lt, Int64.lt_iff_toInt_lt, lN_ti hy, lN_toInt (n := len - x) (by omega), z] at h3
    split at h3 <;> omega
  · intro h
    have hx' := e1.mpr (by omega)
    refine ⟨hx'.1, hx'.2, ?_⟩
    rw [lN_sub (by omega), Int64.lt_iff_toInt_lt, Int64.lt_iff_toInt_lt, lN_ti hy, lN_toInt (n := len - x) (by omega), z]
    split <;> omega
theorem rd_c {h i len : Nat} {σ : am_S} (hl : len ≤ 3000) (hi : i < 24) (hp : h + 64 * i + 64 ≤ len) (h9 : σ.1.1 2 9 = nI h) : R1 (g_Se_readHeader (nI i) (nI len) σ) (fun a s => (a = 0 ∧ ¬ LIE (σ.2.1 1) len (h + 64 * i)) ∨ (a = 1 ∧ LIE (σ.2.1 1) len (h + 64 * i) ∧ s.2.2 5 i = lN (num (σ.2.1 1) (h + 64 * i) 4) ∧ s.2.1 3 i = nI (sF (σ.2.1 1) (h + 64 * i)) ∧ s.2.1 4 i = nI (sF (σ.2.1 1) (h + 64 * i) + sZ (σ.2.1 1) (h + 64 * i)) ∧ ∀ j, j ≠ i → s.2.2 5 j = σ.2.2 5 j ∧ s.2.1 3 j = σ.2.1 3 j ∧ s.2.1 4 j = σ.2.1 4 j)) := by
  unfold g_Se_readHeader g_Se_readHeader_129
  rw [h9, show (64 : Int32) * nI i = nI (64 * i) from pk_mul 64 i, nI_add]
  refine R1_b (cs_1 (p := h + 64 * i) (by omega) hl) (fun _ s1 _ k1 => ?_)
  refine R1_b (cn_1 (m := 4) k1.1 (by omega) (by omega)) (fun v2 s2 _ k2 => ?_)
  rw [inb_nI hi (by decide), gd_t, nI_clamp (by omega)]
  obtain ⟨w2, c2, e2, _⟩ := k2
  have c2' : CU (am_al s2 5 i v2) 9 (h + 64 * i + 4) len false := c2
  refine R1_b (cn_1 (m := 4) c2' (by omega) (by omega)) (fun v3 s3 _ k3 => ?_)
  obtain ⟨w3, c3, e3, _⟩ := k3
  refine R1_b (cg_1 (n := 16) c3 (by omega)) (fun _ s4 _ k4 => ?_)
  obtain ⟨c4, e4, _⟩ := k4
  refine R1_b (cn_1 (m := 8) c4 (by omega) (by omega)) (fun v5 s5 _ k5 => ?_)
  obtain ⟨w5, c5, e5, _⟩ := k5
  refine R1_b (cn_1 (m := 8) c5 (by omega) (by omega)) (fun v6 s6 _ k6 => ?_)
  obtain ⟨w6, c6, e6, _⟩ := k6
  have a2 : s2.2 = σ.2 := e2.trans k1.2
  have a6 : s6.2 = (am_al s2 5 i v2).2 := e6.trans (e5.trans (e4.trans e3))
  have B6 : s6.2.1 = σ.2.1 := by rw [a6, al_i, a2]
  have b3 : (am_al s2 5 i v2).2.1 = σ.2.1 := by rw [al_i, a2]
  have b4 : s4.2.1 = σ.2.1 := by rw [e4, e3, b3]
  have b5 : s5.2.1 = σ.2.1 := by rw [e5, b4]
  rw [k1.2] at w2
  rw [b3] at w3
  rw [b4] at w5
  rw [b5] at w6
  have n3 := num_lt (σ.2.1 1) 4 (h + 64 * i + 4)
  have n5 := num_lt (σ.2.1 1) 8 (h + 64 * i + 24)
  have n6 := num_lt (σ.2.1 1) 8 (h + 64 * i + 32)
  have L5 : s6.2.2 5 i = lN (num (σ.2.1 1) (h + 64 * i) 4) := by rw [a6, al_at, w2]
  have N5 : ∀ j, j ≠ i → s6.2.2 5 j = σ.2.2 5 j := fun j hj => by rw [a6, al_no (Or.inr hj), a2]
  have hc : lg_cmp v3 8 = 0 ↔ kN (σ.2.1 1) (h + 64 * i) := by
    rw [cmp_eq, w3]
    exact lNe (c := 8) (by omega) (by omega)
  by_cases c : kN (σ.2.1 1) (h + 64 * i)
  · rw [if_pos (hc.mpr c), gd_t, gd_t]
    have f0 : sF (σ.2.1 1) (h + 64 * i) = 0 := if_pos c
    have z0 : sZ (σ.2.1 1) (h + 64 * i) = 0 := if_pos c
    refine R1_p (Or.inr ⟨rfl, Or.inl c, L5, ?_, ?_, fun j hj => ⟨N5 j hj, ?_, ?_⟩⟩)
    · rw [ai_no (Or.inl (by decide)), ai_at, f0]; rfl
    · rw [ai_at, f0, z0]; rfl
    · rw [ai_no (Or.inr hj), ai_no (Or.inr hj), B6]
    · rw [ai_no (Or.inr hj), ai_no (Or.inr hj), B6]
  · rw [if_neg (fun z => c (hc.mp z)), w5, w6, nI_l (by omega)]
    have hh := li_1 (x := num (σ.2.1 1) (h + 64 * i + 24) 8) (y := num (σ.2.1 1) (h + 64 * i + 32) 8) (len := len) (by omega) (by omega) hl
    have hL : LIE (σ.2.1 1) len (h + 64 * i) ↔ num (σ.2.1 1) (h + 64 * i + 24) 8 + num (σ.2.1 1) (h + 64 * i + 32) 8 ≤ len := ⟨fun q => q.resolve_left c, Or.inr⟩
    rw [show h + 64 * i + 4 + 4 + 16 = h + 64 * i + 24 from rfl, show h + 64 * i + 24 + 8 = h + 64 * i + 32 from rfl]
    by_cases d1 : lN (num (σ.2.1 1) (h + 64 * i + 24) 8) < 0
    · rw [if_pos ((cmp_lt _ _).mpr d1)]
      exact R1_p (Or.inl ⟨rfl, fun q => (hh.mpr (hL.mp q)).1 d1⟩)
    · rw [if_neg (fun z => d1 ((cmp_lt _ _).mp z))]
      by_cases d2 : lN len < lN (num (σ.2.1 1) (h + 64 * i + 24) 8)
      · rw [if_pos ((cmp_gt _ _).mpr d2)]
        exact R1_p (Or.inl ⟨rfl, fun q => (hh.mpr (hL.mp q)).2.1 d2⟩)
      · rw [if_neg (fun z => d2 ((cmp_gt _ _).mp z))]
        by_cases d3 : lN (num (σ.2.1 1) (h + 64 * i + 32) 8) < 0
        · rw [if_pos ((cmp_lt _ _).mpr d3)]
          exact R1_p (Or.inl ⟨rfl, fun q => (hh.mpr (hL.mp q)).2.2.1 d3⟩)
        · rw [if_neg (fun z => d3 ((cmp_lt _ _).mp z))]
          by_cases d4 : (lN len - lN (num (σ.2.1 1) (h + 64 * i + 24) 8)) < lN (num (σ.2.1 1) (h + 64 * i + 32) 8)
          · rw [if_pos ((cmp_gt _ _).mpr d4)]
            exact R1_p (Or.inl ⟨rfl, fun q => (hh.mpr (hL.mp q)).2.2.2 d4⟩)
          · rw [if_neg (fun z => d4 ((cmp_gt _ _).mp z)), gd_t, gd_t]
            have f0 : sF (σ.2.1 1) (h + 64 * i) = num (σ.2.1 1) (h + 64 * i + 24) 8 := if_neg c
            have z0 : sZ (σ.2.1 1) (h + 64 * i) = num (σ.2.1 1) (h + 64 * i + 32) 8 := if_neg c
            refine R1_p (Or.inr ⟨rfl, hL.mpr (hh.mp ⟨d1, d2, d3, d4⟩), L5, ?_, ?_, fun j hj => ⟨N5 j hj, ?_, ?_⟩⟩)
            · rw [ai_no (Or.inl (by decide)), ai_at, f0, lN_i]
            · rw [ai_at, f0, z0, lN_add, lN_i]
            · rw [ai_no (Or.inr hj), ai_no (Or.inr hj), B6]
            · rw [ai_no (Or.inr hj), ai_no (Or.inr hj), B6]
theorem lie_m {p len : Nat} {τ : am_S} (hl : len ≤ 3000) (hp : p + 64 ≤ len) (h3 : τ.1.1 0 3 = nI len) : R1 (g_Mo_lies (nI p) τ) (fun a s => s = τ ∧ ((a = 0 ∧ ¬ LIE (τ.2.1 2) len p) ∨ (a = 1 ∧ LIE (τ.2.1 2) len p))) := by
  unfold g_Mo_lies g_Mo_lies_67 g_Mo_lies_71 g_Mo_lies_72
  rw [show nI p + 24 = nI (p + 24) from nI_add p 24, show nI p + 32 = nI (p + 32) from nI_add p 32, show nI p + 4 = nI (p + 4) from nI_add p 4]
  refine R1_b (pe_1 (p := p + 24) (m := 8) (by omega) (by omega)) (fun v1 s1 _ k1 => ?_)
  obtain ⟨w1, rfl⟩ := k1
  refine R1_b (pe_1 (p := p + 32) (m := 8) (by omega) (by omega)) (fun v2 s2 _ k2 => ?_)
  obtain ⟨w2, rfl⟩ := k2
  refine R1_b (pe_1 (p := p + 4) (m := 4) (by omega) (by omega)) (fun v3 s3 _ k3 => ?_)
  obtain ⟨w3, rfl⟩ := k3
  have n3 := num_lt (s3.2.1 2) 4 (p + 4)
  have n5 := num_lt (s3.2.1 2) 8 (p + 24)
  have n6 := num_lt (s3.2.1 2) 8 (p + 32)
  have hc : lg_cmp v3 8 = 0 ↔ kN (s3.2.1 2) p := by
    rw [cmp_eq, w3]
    exact lNe (c := 8) (by omega) (by omega)
  by_cases c : kN (s3.2.1 2) p
  · rw [if_pos (hc.mpr c)]
    exact R1_p ⟨rfl, Or.inr ⟨rfl, Or.inl c⟩⟩
  · rw [if_neg (fun z => c (hc.mp z)), h3, w1, w2, nI_l (by omega)]
    have hh := li_1 (x := num (s3.2.1 2) (p + 24) 8) (y := num (s3.2.1 2) (p + 32) 8) (len := len) (by omega) (by omega) hl
    have hL : LIE (s3.2.1 2) len p ↔ num (s3.2.1 2) (p + 24) 8 + num (s3.2.1 2) (p + 32) 8 ≤ len := ⟨fun q => q.resolve_left c, Or.inr⟩
    refine R1_b mi_1 (fun v4 s4 _ k4 => ?_)
    obtain ⟨rfl, k4⟩ := k4
    rcases k4 with ⟨e, k4⟩ | ⟨e, k4⟩
    · rw [e, if_neg (by decide), h3, nI_l (by omega)]
      refine R1_b mi_1 (fun v5 s5 _ k5 => ?_)
      obtain ⟨rfl, k5⟩ := k5
      rcases k5 with ⟨e, k5⟩ | ⟨e, k5⟩
      · rw [e, if_neg (by decide)]
        exact R1_p ⟨rfl, Or.inr ⟨rfl, hL.mpr (hh.mp ⟨k4.1, k4.2, k5.1, k5.2⟩)⟩⟩
      · rw [e, if_pos rfl]
        refine R1_p ⟨rfl, Or.inl ⟨rfl, fun q => ?_⟩⟩
        have := hh.mpr (hL.mp q)
        rcases k5 with k5 | k5
        · exact this.2.2.1 k5
        · exact this.2.2.2 k5
    · rw [e, if_pos rfl]
      refine R1_p ⟨rfl, Or.inl ⟨rfl, fun q => ?_⟩⟩
      have := hh.mpr (hL.mp q)
      rcases k4 with k4 | k4
      · exact this.1 k4
      · exact this.2.1 k4
