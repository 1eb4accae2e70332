/-! numbers of varying length, the reference's -/
theorem num1 (B : Nat → Int32) (p : Nat) : num B p 1 = by8 B p := by simp [num]
theorem l2i_by (b : Nat) (_ : b < 256) : (lN b).toInt32 = nI b := lN_i b
theorem p64 : ∀ b, b < 128 → ((0 < nI b &&& 64) ↔ 64 ≤ b) := by decide
theorem l83 {a c d : Int32} {b : Int64} {σ : am_S} : ∃ w, g_Mo_leb_83 a b c d σ = some (w, σ) := by
  unfold g_Mo_leb_83 g_Mo_leb_116 g_Mo_leb_117
  by_cases c1 : a = 0
  · rw [if_pos c1]; exact ⟨_, rfl⟩
  · rw [if_neg c1]
    by_cases c2 : 0 < d &&& 64
    · rw [if_pos c2]
      by_cases c3 : c < 10
      · rw [if_pos c3]; exact ⟨_, rfl⟩
      · rw [if_neg c3]; exact ⟨_, rfl⟩
    · rw [if_neg c2]; exact ⟨_, rfl⟩
theorem l10_off {n : Nat} {a c d : Int32} {b : Int64} {σ : am_S} (h : ¬ 127 < d ∨ ¬ σ.1.1 0 8 = 0) : g_Mo_leb_10 (n + 1) a b c d σ = g_Mo_leb_83 a b c d σ := by
  rw [g_Mo_leb_10]
  by_cases c1 : 127 < d
  · rw [if_pos c1, if_neg (h.resolve_left (fun z => z c1))]
  · rw [if_neg c1]
theorem ml_loop {q : Nat} {sg : Bool} : ∀ f i, i + (f + 1) = 10 → ∀ (v : Int64) (p : Nat) (x5 : Int32) (σ : am_S) (n : Nat), RU σ p q false → 127 < x5 → f + 2 < n →
    match rdL (σ.2.1 2) q sg (f + 1) i v p with
    | some (w, p') => g_Mo_leb_10 n (if sg then 1 else 0) v (nI i) x5 σ = some (w, am_fi σ 0 6 (nI p'))
    | none => ∃ w p1, p ≤ p1 ∧ p1 ≤ q ∧ g_Mo_leb_10 n (if sg then 1 else 0) v (nI i) x5 σ = some (w, am_fi (am_fi σ 0 6 (nI p1)) 0 8 1) := by
  intro f
  induction f with
  | zero =>
    intro i hi v p x5 σ n h hx hn
    obtain rfl : i = 9 := by omega
    obtain ⟨n, rfl⟩ : ∃ j, n = j + 2 := ⟨n - 2, by omega⟩
    have h8 : σ.1.1 0 8 = 0 := by rw [h.2.2.1]; rfl
    unfold rdL
    by_cases c : p < q
    · rw [if_pos c]
      have hu := ru_ok (m := 1) h (by omega) (by omega)
      rw [num1, show nI 1 = 1 from rfl] at hu
      have h98 : (am_fi σ 0 6 (nI (p + 1))).1.1 0 8 = 0 := by rw [fi_no (by omega)]; exact h8
      by_cases c2 : by8 (σ.2.1 2) p < 128
      · rw [if_pos c2]
        show g_Mo_leb_10 (n + 2) (if sg then 1 else 0) v (nI 9) x5 σ = _
        rw [g_Mo_leb_10, if_pos hx, if_pos h8, hu, bd_t, if_pos h98, if_pos (by rfl), l2i_by _ (by omega), if_neg (show ¬ 127 < nI (by8 (σ.2.1 2) p) from Int32.not_lt.mpr (nI_le (b := 127) (by omega) (by decide)))]
        show am_gd (z01 0) (g_Mo_leb_10 (n + 1) (if sg then 1 else 0) _ (nI 9 + 1) (nI (by8 (σ.2.1 2) p)) (am_fi (am_fi σ 0 6 (nI (p + 1))) 0 8 0)) = _
        rw [show z01 0 = true from rfl, gd_t, fi_same h98, l10_off (Or.inl (Int32.not_lt.mpr (nI_le (b := 127) (by omega) (by decide))))]
        unfold g_Mo_leb_83 g_Mo_leb_116 g_Mo_leb_117
        rw [if_neg (show ¬ (sg = true ∧ 64 ≤ by8 (σ.2.1 2) p ∧ 9 + 1 < 10) by omega)]
        cases sg with
        | false => rw [if_pos (show (if false = true then (1 : Int32) else 0) = 0 from rfl)]
        | true =>
          rw [if_neg (by decide)]
          by_cases c3 : 0 < nI (by8 (σ.2.1 2) p) &&& 64
          · rw [if_pos c3, if_neg (show ¬ nI 9 + 1 < 10 by decide)]
          · rw [if_neg c3]
      · rw [if_neg c2]
        obtain ⟨w, hs⟩ := l83 (a := if sg then 1 else 0) (b := v ||| (((nI (by8 (σ.2.1 2) p) &&& 127).toInt64) <<< ((7 * nI 9).toInt64 &&& 63))) (c := nI 9 + 1) (d := nI (by8 (σ.2.1 2) p)) (σ := am_fi (am_fi σ 0 6 (nI (p + 1))) 0 8 1)
        refine ⟨w, p + 1, by omega, by omega, ?_⟩
        · rw [g_Mo_leb_10, if_pos hx, if_pos h8, hu, bd_t, if_pos h98, if_pos (by rfl), l2i_by _ (by8_lt _ _), if_pos (show 127 < nI (by8 (σ.2.1 2) p) from nI_lt (a := 127) (by omega) (by have := by8_lt (σ.2.1 2) p; omega))]
          show am_gd (z01 1) (g_Mo_leb_10 (n + 1) (if sg then 1 else 0) _ (nI 9 + 1) (nI (by8 (σ.2.1 2) p)) (am_fi (am_fi σ 0 6 (nI (p + 1))) 0 8 1)) = _
          rw [show z01 1 = true from rfl, gd_t, l10_off (Or.inr (by rw [fi_at]; decide))]
          exact hs
    · rw [if_neg c]
      have hu := ru_bad (m := 1) h (by omega) (Or.inr (by omega))
      rw [show nI 1 = 1 from rfl] at hu
      obtain ⟨w, hs⟩ := l83 (a := if sg then 1 else 0) (b := v ||| ((((0 : Int64).toInt32 &&& 127).toInt64) <<< ((7 * nI 9).toInt64 &&& 63))) (c := nI 9 + 1) (d := (0 : Int64).toInt32) (σ := am_fi σ 0 8 1)
      refine ⟨w, p, Nat.le_refl _, h.2.2.2.1, ?_⟩
      rw [g_Mo_leb_10, if_pos hx, if_pos h8, hu, bd_t, if_neg (by rw [fi_at]; decide)]
      show am_gd (z01 1) (g_Mo_leb_10 (n + 1) (if sg then 1 else 0) _ (nI 9 + 1) (0 : Int64).toInt32 (am_fi (am_fi σ 0 8 1) 0 8 1)) = _
      rw [show z01 1 = true from rfl, gd_t, fi_fi, l10_off (Or.inl (by decide)), fi_same h.1]
      exact hs
  | succ f ih =>
    intro i hi v p x5 σ n h hx hn
    obtain ⟨n, rfl⟩ : ∃ j, n = j + 2 := ⟨n - 2, by omega⟩
    have h8 : σ.1.1 0 8 = 0 := by rw [h.2.2.1]; rfl
    have hi9 : ¬ nI i = 9 := fun z => by
      have := nI_lt (a := i) (b := 9) (by omega) (by decide)
      rw [z] at this
      exact absurd this (by decide)
    unfold rdL
    by_cases c : p < q
    · rw [if_pos c]
      have hu := ru_ok (m := 1) h (by omega) (by omega)
      rw [num1, show nI 1 = 1 from rfl] at hu
      have h98 : (am_fi σ 0 6 (nI (p + 1))).1.1 0 8 = 0 := by rw [fi_no (by omega)]; exact h8
      have e : g_Mo_leb_10 (n + 2) (if sg then 1 else 0) v (nI i) x5 σ = g_Mo_leb_10 (n + 1) (if sg then 1 else 0) (v ||| (((nI (by8 (σ.2.1 2) p) &&& 127).toInt64) <<< ((7 * nI i).toInt64 &&& 63))) (nI (i + 1)) (nI (by8 (σ.2.1 2) p)) (am_fi σ 0 6 (nI (p + 1))) := by
        rw [g_Mo_leb_10, if_pos hx, if_pos h8, hu, bd_t, if_pos h98, if_neg hi9, l2i_by _ (by8_lt _ _)]
        show am_gd (z01 0) (g_Mo_leb_10 (n + 1) (if sg then 1 else 0) _ (nI i + 1) (nI (by8 (σ.2.1 2) p)) (am_fi (am_fi σ 0 6 (nI (p + 1))) 0 8 0)) = _
        rw [show z01 0 = true from rfl, gd_t, fi_same h98, show nI i + 1 = nI (i + 1) from nI_add i 1]
      by_cases c2 : by8 (σ.2.1 2) p < 128
      · rw [if_pos c2]
        show g_Mo_leb_10 (n + 2) (if sg then 1 else 0) v (nI i) x5 σ = _
        rw [e, l10_off (Or.inl (Int32.not_lt.mpr (nI_le (b := 127) (by omega) (by decide))))]
        unfold g_Mo_leb_83 g_Mo_leb_116 g_Mo_leb_117
        cases sg with
        | false =>
          rw [if_pos (show (if false = true then (1 : Int32) else 0) = 0 from rfl), if_neg (by simp)]
        | true =>
          rw [if_neg (by decide)]
          by_cases c3 : 64 ≤ by8 (σ.2.1 2) p
          · rw [if_pos ((p64 _ c2).mpr c3), if_pos (show nI (i + 1) < 10 from nI_lt (b := 10) (by omega) (by decide)), if_pos ⟨rfl, c3, by omega⟩]
          · rw [if_neg (fun z => c3 ((p64 _ c2).mp z)), if_neg (fun z => c3 z.2.1)]
      · rw [if_neg c2]
        have hc : RU (am_fi σ 0 6 (nI (p + 1))) (p + 1) q false := ⟨fi_at, by rw [fi_no (by omega)]; exact h.2.1, by rw [fi_no (by omega)]; exact h.2.2.1, by omega, h.2.2.2.2⟩
        have := ih (i + 1) (by omega) (v ||| (((nI (by8 (σ.2.1 2) p) &&& 127).toInt64) <<< ((7 * nI i).toInt64 &&& 63))) (p + 1) (nI (by8 (σ.2.1 2) p)) (am_fi σ 0 6 (nI (p + 1))) (n + 1) hc (nI_lt (a := 127) (by omega) (by have := by8_lt (σ.2.1 2) p; omega)) (by omega)
        rw [e]
        have eb : (am_fi σ 0 6 (nI (p + 1))).2.1 2 = σ.2.1 2 := rfl
        rw [eb] at this
        cases hr : rdL (σ.2.1 2) q sg (f + 1) (i + 1) (v ||| (((nI (by8 (σ.2.1 2) p) &&& 127).toInt64) <<< ((7 * nI i).toInt64 &&& 63))) (p + 1) with
        | some x =>
          rw [hr] at this
          obtain ⟨w, p'⟩ := x
          show _ = some (w, am_fi σ 0 6 (nI p'))
          have t2 : g_Mo_leb_10 (n + 1) (if sg then 1 else 0) (v ||| (((nI (by8 (σ.2.1 2) p) &&& 127).toInt64) <<< ((7 * nI i).toInt64 &&& 63))) (nI (i + 1)) (nI (by8 (σ.2.1 2) p)) (am_fi σ 0 6 (nI (p + 1))) = some (w, am_fi (am_fi σ 0 6 (nI (p + 1))) 0 6 (nI p')) := this
          rw [t2, fi_fi]
        | none =>
          rw [hr] at this
          obtain ⟨w, p1, a1, a2, a3⟩ := this
          exact ⟨w, p1, by omega, a2, by rw [a3, fi_fi]⟩
    · rw [if_neg c]
      have hu := ru_bad (m := 1) h (by omega) (Or.inr (by omega))
      rw [show nI 1 = 1 from rfl] at hu
      obtain ⟨w, hs⟩ := l83 (a := if sg then 1 else 0) (b := v ||| ((((0 : Int64).toInt32 &&& 127).toInt64) <<< ((7 * nI i).toInt64 &&& 63))) (c := nI i + 1) (d := (0 : Int64).toInt32) (σ := am_fi σ 0 8 1)
      refine ⟨w, p, Nat.le_refl _, h.2.2.2.1, ?_⟩
      rw [g_Mo_leb_10, if_pos hx, if_pos h8, hu, bd_t, if_neg (by rw [fi_at]; decide)]
      show am_gd (z01 1) (g_Mo_leb_10 (n + 1) (if sg then 1 else 0) _ (nI i + 1) (0 : Int64).toInt32 (am_fi (am_fi σ 0 8 1) 0 8 1)) = _
      rw [show z01 1 = true from rfl, gd_t, fi_fi, l10_off (Or.inl (by decide)), fi_same h.1]
      exact hs
theorem ml_ok {p q : Nat} {σ : am_S} {sg : Bool} (h : RU σ p q false) {w : Int64} {p' : Nat} (hr : rdL (σ.2.1 2) q sg 10 0 0 p = some (w, p')) : g_Mo_leb (if sg then 1 else 0) σ = some (w, am_fi σ 0 6 (nI p')) := by
  have := ml_loop (sg := sg) 9 0 rfl 0 p 128 σ 4000 h (by decide) (by omega)
  rw [hr] at this
  exact this
theorem ml_bad {p q : Nat} {σ : am_S} {sg : Bool} (h : RU σ p q false) (hr : rdL (σ.2.1 2) q sg 10 0 0 p = none) : ∃ w p1, p ≤ p1 ∧ p1 ≤ q ∧ g_Mo_leb (if sg then 1 else 0) σ = some (w, am_fi (am_fi σ 0 6 (nI p1)) 0 8 1) := by
  have := ml_loop (sg := sg) 9 0 rfl 0 p 128 σ 4000 h (by decide) (by omega)
  rw [hr] at this
  exact this
