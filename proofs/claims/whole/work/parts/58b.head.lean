/-! the head of the file -/
theorem CU_1' {σ : am_S} {k p p' q : Nat} {b : Bool} (h : CU σ k p q b) (hp : p' ≤ q) : CU (am_fi σ k 1 (nI p')) k p' q b := ⟨fi_at, (fi_no (Or.inl (by decide))).trans h.2.1, (fi_no (Or.inl (by decide))).trans h.2.2.1, hp, h.2.2.2.2⟩
theorem CU_o {σ : am_S} {k p q a j : Nat} {v : Int32} {b : Bool} (h : CU σ k p q b) (ha : k ≠ a) : CU (am_fi σ a j v) k p q b := ⟨(fi_no (Or.inr ha)).trans h.1, (fi_no (Or.inr ha)).trans h.2.1, (fi_no (Or.inr ha)).trans h.2.2.1, h.2.2.2.1, h.2.2.2.2⟩
theorem RU_1' {σ : am_S} {p p' q : Nat} {b : Bool} (h : RU σ p q b) (hp : p' ≤ q) : RU (am_fi σ 0 6 (nI p')) p' q b := ⟨fi_at, (fi_no (Or.inl (by decide))).trans h.2.1, (fi_no (Or.inl (by decide))).trans h.2.2.1, hp, h.2.2.2.2⟩
theorem cs_1 {σ : am_S} {k p q : Nat} (hpq : p ≤ q) (hq : q ≤ 3000) : R1 (g_Cu_set k (nI p) (nI q) σ) (fun _ s => CU s k p q false ∧ s.2 = σ.2) := ⟨_, _, rfl, CU_0 hpq hq, rfl⟩
theorem cn_1 {σ : am_S} {k p q m : Nat} (h : CU σ k p q false) (hm : m ≤ 8) (hl : p + m ≤ q) : R1 (g_Cu_number k (nI m) σ) (fun v s => v = lN (num (σ.2.1 1) p m) ∧ CU s k (p + m) q false ∧ s.2 = σ.2 ∧ s = am_fi σ k 1 (nI (p + m))) := ⟨_, _, gn_ok h hm hl, rfl, CU_1' h hl, rfl, rfl⟩
theorem cg_1 {σ : am_S} {k p q n : Nat} (h : CU σ k p q false) (hn : p + n ≤ q) : R1 (g_Cu_skip k (lN n) σ) (fun _ s => CU s k (p + n) q false ∧ s.2 = σ.2 ∧ s = am_fi σ k 1 (nI (p + n))) := ⟨_, _, sk_ok h hn, CU_1' h hn, rfl, rfl⟩
theorem pe_1 {σ : am_S} {p m : Nat} (hpm : p + m ≤ 3000) (hm : m ≤ 8) : R1 (g_Mo_peek (nI p) (nI m) σ) (fun v s => v = lN (num (σ.2.1 2) p m) ∧ s = σ) := ⟨_, _, pe_ok hpm hm, rfl, rfl⟩
theorem mi_1 {σ : am_S} {x a b : Int64} : R1 (g_Mo_in x a b σ) (fun v s => s = σ ∧ ((v = 1 ∧ ¬ x < a ∧ ¬ b < x) ∨ (v = 0 ∧ (x < a ∨ b < x)))) := by
  unfold g_Mo_in g_Mo_in_17 g_Mo_in_18
  by_cases c : x < a
  · rw [if_pos ((cmp_lt x a).mpr c)]
    exact R1_p ⟨rfl, Or.inr ⟨rfl, Or.inl c⟩⟩
  · rw [if_neg (fun z => c ((cmp_lt x a).mp z))]
    by_cases d : b < x
    · rw [if_pos ((cmp_gt x b).mpr d)]
      exact R1_p ⟨rfl, Or.inr ⟨rfl, Or.inr d⟩⟩
    · rw [if_neg (fun z => d ((cmp_gt x b).mp z))]
      exact R1_p ⟨rfl, Or.inl ⟨rfl, c, d⟩⟩
def BS (B : Nat → Int32) : Prop := ∀ i, -128 ≤ (B i).toInt ∧ (B i).toInt ≤ 127
theorem by8_s {B : Nat → Int32} (h : BS B) {i c : Nat} (hc : c < 128) : by8 B i = c ↔ B i = nI c := by
  have hb := h i
  have e : (B i).toInt = (if 2 * (B i).toBitVec.toNat < 2 ^ 32 then ((B i).toBitVec.toNat : Int) else ((B i).toBitVec.toNat : Int) - 2 ^ 32) := by
    show (B i).toBitVec.toInt = _
    rw [BitVec.toInt_eq_toNat_cond]
    rfl
  have hlt := (B i).toBitVec.isLt
  have hn := nI_toInt (n := c) (by omega)
  unfold by8
  constructor
  · intro q
    apply Int32.toInt_inj.mp
    rw [hn]
    split at e <;> omega
  · intro q
    rw [q] at e hb ⊢
    rw [hn] at e
    split at e <;> omega
def MG (B : Nat → Int32) : Prop := ∀ i, i < 7 → B i = cs_c 65 i
theorem mg_num {B : Nat → Int32} (h : BS B) : lN (num B 0 7) = 282584257676671 ↔ MG B := by
  have e : lN (num B 0 7) = 282584257676671 ↔ num B 0 7 = 282584257676671 := by
    have h1 := num_lt B 7 0
    constructor
    · intro q
      have q2 := congrArg Int64.toInt q
      rw [pk_lT (by omega)] at q2
      have : (282584257676671 : Int64).toInt = 282584257676671 := by decide
      omega
    · intro q
      rw [q]
      rfl
  rw [e]
  have k : ∀ i, by8 B i < 256 := by8_lt B
  have k0 := k 0
  have k1 := k 1
  have k2 := k 2
  have k3 := k 3
  have k4 := k 4
  have k5 := k 5
  have k6 := k 6
  have m : num B 0 7 = by8 B 0 + 256 * (by8 B 1 + 256 * (by8 B 2 + 256 * (by8 B 3 + 256 * (by8 B 4 + 256 * (by8 B 5 + 256 * by8 B 6))))) := by simp [num]
  rw [m]
  have s0 := by8_s h (i := 0) (c := 127) (by decide)
  have s1 := by8_s h (i := 1) (c := 69) (by decide)
  have s2 := by8_s h (i := 2) (c := 76) (by decide)
  have s3 := by8_s h (i := 3) (c := 70) (by decide)
  have s4 := by8_s h (i := 4) (c := 2) (by decide)
  have s5 := by8_s h (i := 5) (c := 1) (by decide)
  have s6 := by8_s h (i := 6) (c := 1) (by decide)
  constructor
  · intro q i hi
    have a0 : by8 B 0 = 127 := by omega
    have a1 : by8 B 1 = 69 := by omega
    have a2 : by8 B 2 = 76 := by omega
    have a3 : by8 B 3 = 70 := by omega
    have a4 : by8 B 4 = 2 := by omega
    have a5 : by8 B 5 = 1 := by omega
    have a6 : by8 B 6 = 1 := by omega
    match i, hi with
    | 0, _ => exact s0.mp a0
    | 1, _ => exact s1.mp a1
    | 2, _ => exact s2.mp a2
    | 3, _ => exact s3.mp a3
    | 4, _ => exact s4.mp a4
    | 5, _ => exact s5.mp a5
    | 6, _ => exact s6.mp a6
  · intro q
    rw [s0.mpr (q 0 (by decide)), s1.mpr (q 1 (by decide)), s2.mpr (q 2 (by decide)), s3.mpr (q 3 (by decide)), s4.mpr (q 4 (by decide)), s5.mpr (q 5 (by decide)), s6.mpr (q 6 (by decide))]
theorem mg_ok {σ : am_S} {x : Int32} (h : MG (σ.2.1 1)) : ∀ j i, i + j = 7 → ∀ n, j < n → g_Se_readHead_10 n x (nI i) σ = g_Se_readHead_10 1 x (nI 7) σ := by
  intro j
  induction j with
  | zero =>
    intro i hi n hn
    obtain ⟨n, rfl⟩ : ∃ z, n = z + 1 := ⟨n - 1, by omega⟩
    have : i = 7 := by omega
    subst this
    rw [g_Se_readHead_10, g_Se_readHead_10, if_neg (by decide), if_neg (by decide)]
  | succ j ih =>
    intro i hi n hn
    obtain ⟨n, rfl⟩ : ∃ z, n = z + 1 := ⟨n - 1, by omega⟩
    rw [g_Se_readHead_10, if_pos (show nI i < Int32.ofNat 7 from nI_lt (b := 7) (by omega) (by omega)), inb_nI (by omega) (by decide), gd_t, inb_nI (by omega) (by decide), gd_t, nI_clamp (by omega), if_pos (show σ.2.1 1 i = am_cs S_c 65 i from h i (by omega)), show nI i + 1 = nI (i + 1) from nI_add i 1]
    exact ih (i + 1) (by omega) n (by omega)
theorem mg_no {σ : am_S} {x : Int32} {m : Nat} (hm : m < 7) (h : ¬ σ.2.1 1 m = cs_c 65 m) : ∀ j i, i + j = 7 → i ≤ m → ∀ n, j < n → g_Se_readHead_10 n x (nI i) σ = some (0, σ) := by
  intro j
  induction j with
  | zero =>
    intro i hi him n hn
    omega
  | succ j ih =>
    intro i hi him n hn
    obtain ⟨n, rfl⟩ : ∃ z, n = z + 1 := ⟨n - 1, by omega⟩
    rw [g_Se_readHead_10, if_pos (show nI i < Int32.ofNat 7 from nI_lt (b := 7) (by omega) (by omega)), inb_nI (by omega) (by decide), gd_t, inb_nI (by omega) (by decide), gd_t, nI_clamp (by omega)]
    by_cases c : σ.2.1 1 i = am_cs S_c 65 i
    · rw [if_pos c, show nI i + 1 = nI (i + 1) from nI_add i 1]
      have : i ≠ m := fun z => h (z ▸ c)
      exact ih (i + 1) (by omega) (by omega) n (by omega)
    · rw [if_neg c]

theorem subI {a b : Nat} (ha : a < 2 ^ 30) (hb : b < 2 ^ 30) : (nI a - nI b).toInt = (a : Int) - (b : Int) := by
  rw [Int32.toInt_sub, nI_toInt (by omega), nI_toInt (by omega)]
  simp only [Int.bmod]
  omega
theorem subL {a b : Nat} (ha : a < 2 ^ 30) (hb : b < 2 ^ 30) : ((nI a - nI b).toInt64).toInt = (a : Int) - (b : Int) := by
  rw [Int32.toInt_toInt64, subI ha hb]
/-- total, place, names -/
def HD (B : Nat → Int32) (len t h n : Nat) : Prop := 64 ≤ len ∧ MG B ∧ num B 58 2 = 64 ∧ num B 60 2 = t ∧ 1 ≤ t ∧ t ≤ 24 ∧ num B 62 2 = n ∧ n < t ∧ num B 40 8 = h ∧ h + 64 * t ≤ len
theorem lN64 {x : Nat} (h : x < 2 ^ 31) {c : Nat} (hc : c < 2 ^ 31) : lN x = lN c ↔ x = c := lN_eq h hc
theorem h40 {x len t : Nat} (hx : x < 2 ^ 64) (hl : len ≤ 3000) (ht : t ≤ 24) : (¬ lN x < 0 ∧ ¬ (nI len - nI (64 * t)).toInt64 < lN x) ↔ x + 64 * t ≤ len := by
  rw [Int64.lt_iff_toInt_lt, Int64.lt_iff_toInt_lt, subL (by omega) (by omega), lN_ti hx]
  have : (0 : Int64).toInt = 0 := by decide
  rw [this]
  split <;> omega
theorem rh_c {len : Nat} {σ : am_S} (hl : len ≤ 3000) : R1 (g_Se_readHead (nI len) σ) (fun a s => s.2 = σ.2 ∧ ((a = 0 ∧ ∀ t h n, ¬ HD (σ.2.1 1) len t h n) ∨ (a = 1 ∧ ∃ t h n, HD (σ.2.1 1) len t h n ∧ s.1.1 2 8 = nI t ∧ s.1.1 2 9 = nI h ∧ s.1.1 2 10 = nI n))) := by
  unfold g_Se_readHead
  by_cases c : len < 64
  · rw [if_pos (show nI len < 64 from nI_lt (b := 64) c (by omega))]
    exact R1_p ⟨rfl, Or.inl ⟨rfl, fun t h n H => by have := H.1; omega⟩⟩
  · rw [if_neg (show ¬ nI len < 64 from nI_nlt (b := 64) (by omega) (by omega))]
    by_cases cm : MG (σ.2.1 1)
    · rw [show (0 : Int32) = nI 0 from rfl, mg_ok cm 7 0 rfl 4000 (by omega), g_Se_readHead_10, if_neg (by decide)]
      refine R1_b (cs_1 (p := 40) (by omega) hl) (fun _ s1 _ h1 => ?_)
      refine R1_b (cn_1 (m := 8) h1.1 (by omega) (by omega)) (fun v2 s2 _ h2 => ?_)
      refine R1_b (cs_1 (p := 58) (by omega) hl) (fun _ s3 _ h3 => ?_)
      refine R1_b (cn_1 (m := 2) h3.1 (by omega) (by omega)) (fun v4 s4 _ h4 => ?_)
      refine R1_b (cn_1 (m := 2) h4.2.1 (by omega) (by omega)) (fun v5 s5 _ h5 => ?_)
      refine R1_b (cn_1 (m := 2) (CU_o (a := 2) (j := 8) (v := v5.toInt32) h5.2.1 (by decide)) (by omega) (by omega)) (fun v6 s6 _ h6 => ?_)
      have e1 : s2.2 = σ.2 := h2.2.2.1.trans h1.2
      have e3 : s3.2 = σ.2 := h3.2.trans e1
      have e4 : s4.2 = σ.2 := h4.2.2.1.trans e3
      have e5 : s5.2 = σ.2 := h5.2.2.1.trans e4
      have e6 : s6.2 = σ.2 := h6.2.2.1.trans e5
      have w2 := h2.1
      have w4 := h4.1
      have w5 := h5.1
      have w6 := h6.1
      have eB : (am_fi s5 2 8 v5.toInt32).2 = σ.2 := e5
      rw [h1.2] at w2
      rw [e3] at w4
      rw [e4] at w5
      rw [eB] at w6
      have f8 : s6.1.1 2 8 = nI (num (σ.2.1 1) 60 2) := by
        rw [h6.2.2.2, fi_no (Or.inl (by decide)), fi_at, w5, lN_i]
      have i6 : v6.toInt32 = nI (num (σ.2.1 1) 62 2) := by rw [w6, lN_i]
      have b58 := num_lt (σ.2.1 1) 2 58
      have b60 := num_lt (σ.2.1 1) 2 60
      have b62 := num_lt (σ.2.1 1) 2 62
      have b40 := num_lt (σ.2.1 1) 8 40
      have no : ∀ {s : am_S}, s.2 = σ.2 → (∀ t h n, ¬ HD (σ.2.1 1) len t h n) → R1 (some ((0 : Int32), s)) (fun a s => s.2 = σ.2 ∧ ((a = 0 ∧ ∀ t h n, ¬ HD (σ.2.1 1) len t h n) ∨ (a = 1 ∧ ∃ t h n, HD (σ.2.1 1) len t h n ∧ s.1.1 2 8 = nI t ∧ s.1.1 2 9 = nI h ∧ s.1.1 2 10 = nI n))) := fun e h => R1_p ⟨e, Or.inl ⟨rfl, h⟩⟩
      unfold g_Se_readHead_143 g_Se_readHead_166
      rw [f8, i6]
      by_cases c1 : num (σ.2.1 1) 58 2 = 64
      · rw [if_pos ((cmp_eq _ _).mpr (by rw [w4, c1]; rfl))]
        by_cases c2 : num (σ.2.1 1) 60 2 < 1
        · rw [if_pos (show nI (num (σ.2.1 1) 60 2) < 1 from nI_lt (b := 1) c2 (by omega))]
          exact no e6 (fun t h n H => by obtain ⟨_, _, _, a1, a2, _⟩ := H; omega)
        · rw [if_neg (show ¬ nI (num (σ.2.1 1) 60 2) < 1 from nI_nlt (b := 1) (by omega) (by omega))]
          by_cases c3 : 24 < num (σ.2.1 1) 60 2
          · rw [if_pos (show 24 < nI (num (σ.2.1 1) 60 2) from nI_lt (a := 24) c3 (by omega))]
            exact no e6 (fun t h n H => by obtain ⟨_, _, _, a1, _, a2, _⟩ := H; omega)
          · rw [if_neg (show ¬ 24 < nI (num (σ.2.1 1) 60 2) from nI_nlt (a := 24) (by omega) (by omega))]
            by_cases c4 : num (σ.2.1 1) 62 2 < num (σ.2.1 1) 60 2
            · rw [if_pos (nI_lt c4 (by omega)), w2, show (64 : Int32) * nI (num (σ.2.1 1) 60 2) = nI (64 * num (σ.2.1 1) 60 2) from pk_mul 64 _]
              have hh := h40 (x := num (σ.2.1 1) 40 8) (len := len) (t := num (σ.2.1 1) 60 2) (by omega) hl (by omega)
              by_cases c5 : num (σ.2.1 1) 40 8 + 64 * num (σ.2.1 1) 60 2 ≤ len
              · have hh := hh.mpr c5
                rw [if_neg (fun z => hh.1 ((cmp_lt _ _).mp z)), if_neg (fun z => hh.2 ((cmp_gt _ _).mp z))]
                refine R1_p ⟨e6, Or.inr ⟨rfl, num (σ.2.1 1) 60 2, num (σ.2.1 1) 40 8, num (σ.2.1 1) 62 2, ⟨by omega, cm, c1, rfl, by omega, by omega, rfl, c4, rfl, c5⟩, ?_, ?_, ?_⟩⟩
                · rw [fi_no (Or.inl (by decide)), fi_no (Or.inl (by decide))]
                  exact f8
                · rw [fi_at, lN_i]
                · rw [fi_no (Or.inl (by decide)), fi_at]
              · have nh : ∀ t h n, ¬ HD (σ.2.1 1) len t h n := fun t h n H => by
                  obtain ⟨_, _, _, a1, _, _, _, _, a2, a3⟩ := H
                  omega
                by_cases c6 : lN (num (σ.2.1 1) 40 8) < 0
                · rw [if_pos ((cmp_lt _ _).mpr c6)]
                  exact no e6 nh
                · rw [if_neg (fun z => c6 ((cmp_lt _ _).mp z))]
                  by_cases c7 : (nI len - nI (64 * num (σ.2.1 1) 60 2)).toInt64 < lN (num (σ.2.1 1) 40 8)
                  · rw [if_pos ((cmp_gt _ _).mpr c7)]
                    exact no e6 nh
                  · exact absurd (hh.mp ⟨c6, c7⟩) c5
            · rw [if_neg (nI_nlt (by omega) (by omega))]
              exact no e6 (fun t h n H => by obtain ⟨_, _, _, a1, _, _, a2, a3, _⟩ := H; omega)
      · rw [if_neg (show ¬ lg_cmp v4 64 = 0 from fun z => c1 ((lN64 (c := 64) (by omega) (by omega)).mp (w4 ▸ (cmp_eq _ _).mp z)))]
        exact no e6 (fun t h n H => c1 H.2.2.1)
    · have : ∃ m, m < 7 ∧ ¬ σ.2.1 1 m = cs_c 65 m := by
        apply Classical.byContradiction
        intro q
        exact cm (fun i hi => Classical.byContradiction (fun z => q ⟨i, hi, z⟩))
      obtain ⟨m, hm, hne⟩ := this
      rw [show (0 : Int32) = nI 0 from rfl, mg_no hm hne 7 0 rfl (by omega) 4000 (by omega)]
      exact R1_p ⟨rfl, Or.inl ⟨rfl, fun t h n H => cm H.2.1⟩⟩

theorem ih_m {len : Nat} {τ : am_S} (hl : len ≤ 3000) (h3 : τ.1.1 0 3 = nI len) (hB : BS (τ.2.1 2)) : R1 (g_Mo_isHead τ) (fun a s => s = τ ∧ ((a = 1 ∧ 64 ≤ len ∧ MG (τ.2.1 2) ∧ num (τ.2.1 2) 58 2 = 64 ∧ 1 ≤ num (τ.2.1 2) 60 2 ∧ num (τ.2.1 2) 60 2 ≤ 24 ∧ num (τ.2.1 2) 62 2 < num (τ.2.1 2) 60 2) ∨ (a = 0 ∧ ¬ (64 ≤ len ∧ MG (τ.2.1 2) ∧ num (τ.2.1 2) 58 2 = 64 ∧ 1 ≤ num (τ.2.1 2) 60 2 ∧ num (τ.2.1 2) 60 2 ≤ 24 ∧ num (τ.2.1 2) 62 2 < num (τ.2.1 2) 60 2)))) := by
  have b58 := num_lt (τ.2.1 2) 2 58
  have b60 := num_lt (τ.2.1 2) 2 60
  have b62 := num_lt (τ.2.1 2) 2 62
  unfold g_Mo_isHead g_Mo_isHead_76 g_Mo_isHead_77
  rw [h3]
  by_cases c : len < 64
  · rw [if_pos (show nI len < 64 from nI_lt (b := 64) c (by omega))]
    exact R1_p ⟨rfl, Or.inr ⟨rfl, fun q => by omega⟩⟩
  · rw [if_neg (show ¬ nI len < 64 from nI_nlt (b := 64) (by omega) (by omega))]
    refine R1_b (pe_1 (p := 0) (m := 7) (by omega) (by omega)) (fun v1 s1 _ h1 => ?_)
    obtain ⟨w1, rfl⟩ := h1
    by_cases c1 : MG (s1.2.1 2)
    · rw [if_pos ((cmp_eq _ _).mpr (w1.trans ((mg_num hB).mpr c1)))]
      refine R1_b (pe_1 (p := 58) (m := 2) (by omega) (by omega)) (fun v2 s2 _ h2 => ?_)
      obtain ⟨w2, rfl⟩ := h2
      by_cases c2 : num (s2.2.1 2) 58 2 = 64
      · rw [if_pos ((cmp_eq _ _).mpr (by rw [w2, c2]; rfl))]
        refine R1_b (pe_1 (p := 60) (m := 2) (by omega) (by omega)) (fun v3 s3 _ h3 => ?_)
        obtain ⟨w3, rfl⟩ := h3
        refine R1_b mi_1 (fun v4 s4 _ h4 => ?_)
        obtain ⟨rfl, h4⟩ := h4
        rw [w3] at h4
        have x1 : lN (num (s4.2.1 2) 60 2) < 1 ↔ num (s4.2.1 2) 60 2 < 1 := lN_lt (b := 1) (by omega) (by omega)
        have x2 : 24 < lN (num (s4.2.1 2) 60 2) ↔ 24 < num (s4.2.1 2) 60 2 := lN_lt (a := 24) (by omega) (by omega)
        rw [x1, x2] at h4
        rcases h4 with ⟨e, h4⟩ | ⟨e, h4⟩
        · rw [e, if_neg (by decide)]
          refine R1_b (pe_1 (p := 62) (m := 2) (by omega) (by omega)) (fun v5 s5 _ h5 => ?_)
          obtain ⟨w5, rfl⟩ := h5
          refine R1_b (pe_1 (p := 60) (m := 2) (by omega) (by omega)) (fun v6 s6 _ h6 => ?_)
          obtain ⟨w6, rfl⟩ := h6
          have x3 := lN_lt (a := num (s6.2.1 2) 62 2) (b := num (s6.2.1 2) 60 2) (by omega) (by omega)
          by_cases c5 : num (s6.2.1 2) 62 2 < num (s6.2.1 2) 60 2
          · rw [if_pos ((cmp_lt _ _).mpr (by rw [w5, w6]; exact x3.mpr c5))]
            exact R1_p ⟨rfl, Or.inl ⟨rfl, by omega, c1, c2, by omega, by omega, c5⟩⟩
          · rw [if_neg (fun z => c5 (x3.mp (by rw [← w5, ← w6]; exact (cmp_lt _ _).mp z)))]
            exact R1_p ⟨rfl, Or.inr ⟨rfl, fun q => c5 q.2.2.2.2.2⟩⟩
        · rw [e, if_pos rfl]
          exact R1_p ⟨rfl, Or.inr ⟨rfl, fun q => by have := q.2.2.2.1; have := q.2.2.2.2.1; omega⟩⟩
      · rw [if_neg (show ¬ lg_cmp v2 64 = 0 from fun z => c2 ((lN64 (c := 64) (by omega) (by omega)).mp (w2 ▸ (cmp_eq _ _).mp z)))]
        exact R1_p ⟨rfl, Or.inr ⟨rfl, fun q => c2 q.2.2.1⟩⟩
    · rw [if_neg (fun z => c1 ((mg_num hB).mp (w1 ▸ (cmp_eq _ _).mp z)))]
      exact R1_p ⟨rfl, Or.inr ⟨rfl, fun q => c1 q.2.1⟩⟩
theorem rs_m {len : Nat} {τ : am_S} {Q : Int32 → am_S → Prop} (hl : len ≤ 3000) (h3 : τ.1.1 0 3 = nI len) (hB : BS (τ.2.1 2)) (hn : (∀ t h n, ¬ HD (τ.2.1 2) len t h n) → ∀ s, Q 0 s) (hy : ∀ t h n, HD (τ.2.1 2) len t h n → R1 (g_Mo_readSections_59 4000 (nI h) 0 (am_fi τ 0 9 (nI t))) Q) : R1 (g_Mo_readSections τ) Q := by
  unfold g_Mo_readSections
  refine R1_b (ih_m hl h3 hB) (fun v s _ h => ?_)
  obtain ⟨rfl, h⟩ := h
  rcases h with ⟨e, h⟩ | ⟨e, h⟩
  · rw [e, if_neg (by decide)]
    refine R1_b (pe_1 (p := 60) (m := 2) (by omega) (by omega)) (fun v3 s3 _ k3 => ?_)
    obtain ⟨w3, rfl⟩ := k3
    refine R1_b (pe_1 (p := 40) (m := 8) (by omega) (by omega)) (fun v4 s4 _ k4 => ?_)
    obtain ⟨w4, rfl⟩ := k4
    refine R1_b mi_1 (fun v5 s5 _ k5 => ?_)
    obtain ⟨rfl, k5⟩ := k5
    have b40 := num_lt (s3.2.1 2) 8 40
    have w4 : v4 = lN (num (s3.2.1 2) 40 8) := w4
    rw [w3, lN_i] at k5 ⊢
    rw [fi_at, fi_no (Or.inl (by decide)), h3, show (64 : Int32) * nI (num (s3.2.1 2) 60 2) = nI (64 * num (s3.2.1 2) 60 2) from pk_mul 64 _, w4] at k5
    have hh := h40 (x := num (s3.2.1 2) 40 8) (len := len) (t := num (s3.2.1 2) 60 2) (by omega) hl (by omega)
    rcases k5 with ⟨e, k5⟩ | ⟨e, k5⟩
    · rw [e, if_neg (by decide), w4, lN_i]
      exact hy _ _ _ ⟨h.1, h.2.1, h.2.2.1, rfl, h.2.2.2.1, h.2.2.2.2.1, rfl, h.2.2.2.2.2, rfl, hh.mp k5⟩
    · rw [e, if_pos rfl]
      refine R1_p (hn (fun t h' n H => ?_) _)
      obtain ⟨_, _, _, a1, _, _, _, _, a2, a3⟩ := H
      have := hh.mpr (by omega)
      rcases k5 with k5 | k5
      · exact this.1 k5
      · exact this.2 k5
  · rw [e, if_pos rfl]
    refine R1_p (hn (fun t h' n H => h ?_) _)
    obtain ⟨a0, a1, a2, a3, a4, a5, a6, a7, a8, a9⟩ := H
    exact ⟨a0, a1, a2, by omega, by omega, by omega⟩
