/-! numbers of varying length -/
theorem fi_same {σ : am_S} {k j : Nat} {v : Int32} (h : σ.1.1 k j = v) : am_fi σ k j v = σ := by
  obtain ⟨⟨a, b⟩, c⟩ := σ
  have e : (fun x y => if y = j then (if x = k then v else a x y) else a x y) = a := by
    funext x y
    by_cases h1 : y = j
    · by_cases h2 : x = k
      · subst h1; subst h2; rw [if_pos rfl, if_pos rfl]; exact h.symm
      · rw [if_pos h1, if_neg h2]
    · rw [if_neg h1]
  show ((_, b), c) = ((a, b), c)
  rw [e]
theorem fi_fi {σ : am_S} {k j : Nat} {v w : Int32} : am_fi (am_fi σ k j v) k j w = am_fi σ k j w := by
  have e : (am_fi (am_fi σ k j v) k j w).1.1 = (am_fi σ k j w).1.1 := by
    funext x y
    show (if y = j then (if x = k then w else (if y = j then (if x = k then v else σ.1.1 x y) else σ.1.1 x y)) else (if y = j then (if x = k then v else σ.1.1 x y) else σ.1.1 x y)) = (if y = j then (if x = k then w else σ.1.1 x y) else σ.1.1 x y)
    by_cases h1 : y = j
    · by_cases h2 : x = k
      · rw [if_pos h1, if_pos h2, if_pos h1, if_pos h2]
      · rw [if_pos h1, if_neg h2, if_pos h1, if_neg h2, if_pos h1, if_neg h2]
    · rw [if_neg h1, if_neg h1, if_neg h1]
  show ((_, _), _) = ((_, _), _)
  rw [Prod.mk.injEq, Prod.mk.injEq]
  exact ⟨⟨e, rfl⟩, rfl⟩
theorem fi_cm {σ : am_S} {k j i : Nat} {v w : Int32} (h : j ≠ i) : am_fi (am_fi σ k j v) k i w = am_fi (am_fi σ k i w) k j v := by
  have e : (am_fi (am_fi σ k j v) k i w).1.1 = (am_fi (am_fi σ k i w) k j v).1.1 := by
    funext x y
    show (if y = i then (if x = k then w else (if y = j then (if x = k then v else σ.1.1 x y) else σ.1.1 x y)) else (if y = j then (if x = k then v else σ.1.1 x y) else σ.1.1 x y)) = (if y = j then (if x = k then v else (if y = i then (if x = k then w else σ.1.1 x y) else σ.1.1 x y)) else (if y = i then (if x = k then w else σ.1.1 x y) else σ.1.1 x y))
    by_cases h1 : y = j
    · have h2 : ¬ y = i := by omega
      by_cases h3 : x = k
      · rw [if_neg h2, if_pos h1, if_pos h3, if_pos h1, if_pos h3]
      · rw [if_neg h2, if_pos h1, if_neg h3, if_pos h1, if_neg h3, if_neg h2]
    · by_cases h2 : y = i
      · by_cases h3 : x = k
        · rw [if_pos h2, if_pos h3, if_neg h1, if_pos h2, if_pos h3]
        · rw [if_pos h2, if_neg h3, if_neg h1, if_neg h1, if_pos h2, if_neg h3]
      · rw [if_neg h2, if_neg h1, if_neg h1, if_neg h2]
  show ((_, _), _) = ((_, _), _)
  rw [Prod.mk.injEq, Prod.mk.injEq]
  exact ⟨⟨e, rfl⟩, rfl⟩
theorem fi_at {σ : am_S} {k j : Nat} {v : Int32} : (am_fi σ k j v).1.1 k j = v := by simp [am_fi]
theorem fi_no {σ : am_S} {k j a b : Nat} {v : Int32} (h : b ≠ j ∨ a ≠ k) : (am_fi σ k j v).1.1 a b = σ.1.1 a b := by
  rcases h with h | h <;> simp [am_fi, h]
def rdL (B : Nat → Int32) (q : Nat) (sg : Bool) : Nat → Nat → Int64 → Nat → Option (Int64 × Nat)
  | 0, _, _, _ => none
  | f + 1, i, v, p =>
    if p < q then
      if by8 B p < 128 then some (if sg = true ∧ 64 ≤ by8 B p ∧ i + 1 < 10 then (v ||| (((nI (by8 B p) &&& 127).toInt64) <<< ((7 * nI i).toInt64 &&& 63))) ||| ((-1) <<< ((7 * nI (i + 1)).toInt64 &&& 63)) else v ||| (((nI (by8 B p) &&& 127).toInt64) <<< ((7 * nI i).toInt64 &&& 63)), p + 1)
      else rdL B q sg f (i + 1) (v ||| (((nI (by8 B p) &&& 127).toInt64) <<< ((7 * nI i).toInt64 &&& 63))) (p + 1)
    else none
theorem rdL_le {B : Nat → Int32} {q : Nat} {sg : Bool} : ∀ {f i : Nat} {v : Int64} {p : Nat} {w : Int64} {p' : Nat}, rdL B q sg f i v p = some (w, p') → p < p' ∧ p' ≤ q
  | 0, _, _, _, _, _, h => by cases h
  | f + 1, i, v, p, w, p', h => by
    unfold rdL at h
    by_cases c : p < q
    · rw [if_pos c] at h
      by_cases c2 : by8 B p < 128
      · rw [if_pos c2] at h
        cases h
        omega
      · rw [if_neg c2] at h
        have := rdL_le h
        omega
    · rw [if_neg c] at h
      cases h
theorem b64 : ∀ b, b < 128 → ((nI b &&& 64 = 0) ↔ b < 64) := by decide
theorem gl_loop {k q : Nat} (hq : q ≤ 3000) {sg : Bool} : ∀ f i, i + f = 10 → ∀ (v : Int64) (p : Nat) (σ : am_S) (n : Nat), CU σ k p q false → f < n →
    match rdL (σ.2.1 1) q sg f i v p with
    | some (w, p') => g_Cu_leb_5 n k (if sg then 1 else 0) v (nI i) σ = some (w, am_fi σ k 1 (nI p'))
    | none => ∃ p1, p ≤ p1 ∧ p1 ≤ q ∧ g_Cu_leb_5 n k (if sg then 1 else 0) v (nI i) σ = some (0, am_fi (am_fi σ k 1 (nI p1)) k 3 1) := by
  intro f
  induction f with
  | zero =>
    intro i hi v p σ n h hn
    obtain ⟨n, rfl⟩ : ∃ j, n = j + 1 := ⟨n - 1, by omega⟩
    obtain rfl : i = 10 := by omega
    refine ⟨p, Nat.le_refl _, h.2.2.2.1, ?_⟩
    unfold g_Cu_leb_5 g_Cu_leb_135
    rw [if_neg (by decide), fi_same h.1]
  | succ f ih =>
    intro i hi v p σ n h hn
    obtain ⟨n, rfl⟩ : ∃ j, n = j + 1 := ⟨n - 1, by omega⟩
    obtain ⟨h1, h2, h3, hpq, hq3⟩ := h
    unfold rdL
    by_cases c : p < q
    · rw [if_pos c]
      have e : g_Cu_leb_5 (n + 1) k (if sg then 1 else 0) v (nI i) σ = if nI (by8 (σ.2.1 1) p) < 128 then (if (if sg then (1 : Int32) else 0) = 0 then g_Cu_leb_103 k (v ||| (((nI (by8 (σ.2.1 1) p) &&& 127).toInt64) <<< ((7 * nI i).toInt64 &&& 63))) (nI i) (am_fi σ k 1 (nI (p + 1))) else if nI (by8 (σ.2.1 1) p) &&& 64 = 0 then g_Cu_leb_103 k (v ||| (((nI (by8 (σ.2.1 1) p) &&& 127).toInt64) <<< ((7 * nI i).toInt64 &&& 63))) (nI i) (am_fi σ k 1 (nI (p + 1))) else if nI i + 1 < 10 then g_Cu_leb_104 k (v ||| (((nI (by8 (σ.2.1 1) p) &&& 127).toInt64) <<< ((7 * nI i).toInt64 &&& 63))) (nI i) 1 (am_fi σ k 1 (nI (p + 1))) else g_Cu_leb_103 k (v ||| (((nI (by8 (σ.2.1 1) p) &&& 127).toInt64) <<< ((7 * nI i).toInt64 &&& 63))) (nI i) (am_fi σ k 1 (nI (p + 1)))) else g_Cu_leb_5 n k (if sg then 1 else 0) (v ||| (((nI (by8 (σ.2.1 1) p) &&& 127).toInt64) <<< ((7 * nI i).toInt64 &&& 63))) (nI i + 1) (am_fi σ k 1 (nI (p + 1))) := by
        rw [g_Cu_leb_5]
        rw [if_pos (show nI i < 10 from nI_lt (b := 10) (by omega) (by decide)), if_pos (by rw [h3]; rfl), if_pos (by rw [h1, h2]; exact nI_lt c (by omega)), h1, inb_nI (by omega) (by decide), gd_t, nI_clamp (by omega), by8_and, show nI p + 1 = nI (p + 1) from nI_add p 1]
      by_cases c2 : by8 (σ.2.1 1) p < 128
      · rw [if_pos c2]
        show g_Cu_leb_5 (n + 1) k (if sg then 1 else 0) v (nI i) σ = _
        rw [e, if_pos (show nI (by8 (σ.2.1 1) p) < 128 from nI_lt (b := 128) c2 (by decide))]
        cases sg with
        | false =>
          rw [if_pos (show (if false = true then (1 : Int32) else 0) = 0 from rfl), if_neg (by simp)]
          rfl
        | true =>
          rw [if_neg (by decide)]
          by_cases c3 : by8 (σ.2.1 1) p < 64
          · rw [if_pos ((b64 _ c2).mpr c3), if_neg (by omega)]
            rfl
          · rw [if_neg (fun z => c3 ((b64 _ c2).mp z))]
            rw [show nI i + 1 = nI (i + 1) from nI_add i 1]
            by_cases c4 : i + 1 < 10
            · rw [if_pos (show nI (i + 1) < 10 from nI_lt (b := 10) c4 (by decide)), if_pos ⟨rfl, by omega, c4⟩]
              unfold g_Cu_leb_104 g_Cu_leb_128
              rw [if_neg (by decide), show nI i + 1 = nI (i + 1) from nI_add i 1]
            · rw [if_neg (show ¬ nI (i + 1) < 10 from Int32.not_lt.mpr (nI_le (a := 10) (by omega) (by omega))), if_neg (by omega)]
              rfl
      · rw [if_neg c2]
        have hc : CU (am_fi σ k 1 (nI (p + 1))) k (p + 1) q false := ⟨fi_at, by rw [fi_no (by omega)]; exact h2, by rw [fi_no (by omega)]; exact h3, by omega, hq3⟩
        have := ih (i + 1) (by omega) (v ||| (((nI (by8 (σ.2.1 1) p) &&& 127).toInt64) <<< ((7 * nI i).toInt64 &&& 63))) (p + 1) (am_fi σ k 1 (nI (p + 1))) n hc (by omega)
        rw [e, if_neg (show ¬ nI (by8 (σ.2.1 1) p) < 128 from Int32.not_lt.mpr (nI_le (a := 128) (by omega) (by have := by8_lt (σ.2.1 1) p; omega))), show nI i + 1 = nI (i + 1) from nI_add i 1]
        have eb : (am_fi σ k 1 (nI (p + 1))).2.1 1 = σ.2.1 1 := rfl
        rw [eb] at this
        cases hr : rdL (σ.2.1 1) q sg f (i + 1) (v ||| (((nI (by8 (σ.2.1 1) p) &&& 127).toInt64) <<< ((7 * nI i).toInt64 &&& 63))) (p + 1) with
        | some x =>
          rw [hr] at this
          obtain ⟨w, p'⟩ := x
          show _ = some (w, am_fi σ k 1 (nI p'))
          have t2 : g_Cu_leb_5 n k (if sg then 1 else 0) (v ||| (((nI (by8 (σ.2.1 1) p) &&& 127).toInt64) <<< ((7 * nI i).toInt64 &&& 63))) (nI (i + 1)) (am_fi σ k 1 (nI (p + 1))) = some (w, am_fi (am_fi σ k 1 (nI (p + 1))) k 1 (nI p')) := this
          rw [t2, fi_fi]
        | none =>
          rw [hr] at this
          obtain ⟨p1, a1, a2, a3⟩ := this
          exact ⟨p1, by omega, a2, by rw [a3, fi_fi]⟩
    · rw [if_neg c]
      refine ⟨p, Nat.le_refl _, hpq, ?_⟩
      rw [g_Cu_leb_5]
      rw [if_pos (show nI i < 10 from nI_lt (b := 10) (by omega) (by decide)), if_pos (by rw [h3]; rfl), if_neg (by rw [h1, h2]; exact Int32.not_lt.mpr (nI_le (by omega) (by omega))), fi_same h1]
      rfl
theorem gl_ok {k p q : Nat} {σ : am_S} {sg : Bool} (h : CU σ k p q false) {w : Int64} {p' : Nat} (hr : rdL (σ.2.1 1) q sg 10 0 0 p = some (w, p')) : g_Cu_leb k (if sg then 1 else 0) σ = some (w, am_fi σ k 1 (nI p')) := by
  have := gl_loop (k := k) (sg := sg) h.2.2.2.2 10 0 rfl 0 p σ 4000 h (by omega)
  rw [hr] at this
  exact this
theorem gl_bad {k p q : Nat} {σ : am_S} {sg : Bool} (h : CU σ k p q false) (hr : rdL (σ.2.1 1) q sg 10 0 0 p = none) : ∃ p1, p ≤ p1 ∧ p1 ≤ q ∧ g_Cu_leb k (if sg then 1 else 0) σ = some (0, am_fi (am_fi σ k 1 (nI p1)) k 3 1) := by
  have := gl_loop (k := k) (sg := sg) h.2.2.2.2 10 0 rfl 0 p σ 4000 h (by omega)
  rw [hr] at this
  exact this
theorem gl_off {k : Nat} {σ : am_S} {s : Int32} (h : ¬ σ.1.1 k 3 = 0) : g_Cu_leb k s σ = some (0, am_fi σ k 3 1) := by
  unfold g_Cu_leb
  rw [show (4000 : Nat) = 3999 + 1 from rfl, g_Cu_leb_5, if_pos (by decide), if_neg h]
  rfl
