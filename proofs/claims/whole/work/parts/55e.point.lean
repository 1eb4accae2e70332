/-! a cursor set at a place in a section -/
theorem po_ok {k s a b n : Nat} {σ : am_S} (hs : s < 10) (h6 : σ.2.1 6 s = nI a) (h7 : σ.2.1 7 s = nI b) (hb : b ≤ 3000) (hn : a + n ≤ b) : g_Se_point k (nI s) (lN n) σ = some ((), am_fi (am_fi (am_fi σ k 1 (nI (a + n))) k 2 (nI b)) k 3 0) := by
  obtain ⟨a1, a2⟩ := in_not (n := n) (d := b - a) (by omega) (by omega)
  unfold g_Se_point g_Se_point_38 g_Se_point_56 g_Se_point_76
  rw [inb_nI hs (by decide), gd_t, gd_t, nI_clamp (by omega), h6, h7, if_neg (fun z => a1 ((cmp_lt _ _).mp z)), pk_sub (by omega), nI_l (by omega), if_neg (fun z => a2 ((cmp_gt _ _).mp z)), if_neg (by decide), if_neg (by decide), lN_i, nI_add]
  rfl
theorem po_bad {k s a b : Nat} {x : Int64} {σ : am_S} (hs : s < 10) (h6 : σ.2.1 6 s = nI a) (h7 : σ.2.1 7 s = nI b) (hab : a ≤ b) (hb : b ≤ 3000) (hx : x < 0 ∨ lN (b - a) < x) : g_Se_point k (nI s) x σ = some ((), am_fi (am_fi (am_fi σ k 1 (nI b)) k 2 (nI b)) k 3 1) := by
  have e : g_Se_point_37 k x (nI a) (nI b) σ = some ((), am_fi (am_fi (am_fi σ k 1 (nI b)) k 2 (nI b)) k 3 1) := by
    unfold g_Se_point_37 g_Se_point_38 g_Se_point_56 g_Se_point_76
    rw [if_pos rfl, if_pos rfl]
    rfl
  unfold g_Se_point
  rw [inb_nI hs (by decide), gd_t, gd_t, nI_clamp (by omega), h6, h7]
  by_cases c : lg_cmp x 0 < 0
  · rw [if_pos c, e]
  · rw [if_neg c, pk_sub hab, nI_l (by omega), if_pos ((cmp_gt _ _).mpr (hx.resolve_left (fun z => c ((cmp_lt _ _).mpr z)))), e]
theorem CU_set {σ : am_S} {k p q : Nat} {b : Bool} (hpq : p ≤ q) (hq : q ≤ 3000) : CU (am_fi (am_fi (am_fi σ k 1 (nI p)) k 2 (nI q)) k 3 (if b then 1 else 0)) k p q b :=
  ⟨by rw [fi_no (by omega), fi_no (by omega), fi_at], by rw [fi_no (by omega), fi_at], fi_at, hpq, hq⟩
theorem RU_set {σ : am_S} {p q : Nat} {b : Bool} (hpq : p ≤ q) (hq : q ≤ 3000) : RU (am_fi (am_fi (am_fi σ 0 6 (nI p)) 0 7 (nI q)) 0 8 (if b then 1 else 0)) p q b :=
  ⟨by rw [fi_no (by omega), fi_no (by omega), fi_at], by rw [fi_no (by omega), fi_at], fi_at, hpq, hq⟩
theorem RU_0 {σ : am_S} {p q : Nat} (hpq : p ≤ q) (hq : q ≤ 3000) : RU (am_fi (am_fi (am_fi σ 0 6 (nI p)) 0 7 (nI q)) 0 8 0) p q false := RU_set (b := false) hpq hq
theorem RU_1 {σ : am_S} {p q : Nat} (hpq : p ≤ q) (hq : q ≤ 3000) : RU (am_fi (am_fi (am_fi σ 0 6 (nI p)) 0 7 (nI q)) 0 8 1) p q true := RU_set (b := true) hpq hq
theorem CU_0 {σ : am_S} {k p q : Nat} (hpq : p ≤ q) (hq : q ≤ 3000) : CU (am_fi (am_fi (am_fi σ k 1 (nI p)) k 2 (nI q)) k 3 0) k p q false := CU_set (b := false) hpq hq
theorem CU_1 {σ : am_S} {k p q : Nat} (hpq : p ≤ q) (hq : q ≤ 3000) : CU (am_fi (am_fi (am_fi σ k 1 (nI p)) k 2 (nI q)) k 3 1) k p q true := CU_set (b := true) hpq hq
theorem en_eq {s a b : Nat} {x : Int64} {σ : am_S} (hs : s < 10) (h3 : σ.2.1 3 s = nI a) (h4 : σ.2.1 4 s = nI (b - a)) (hab : a ≤ b) : g_Mo_enter (nI s) x σ = am_bd (g_Mo_pass x (am_fi (am_fi (am_fi σ 0 6 (nI a)) 0 7 (nI b)) 0 8 0)) (fun _ σ1 => some ((), σ1)) := by
  unfold g_Mo_enter
  have e : (am_fi σ 0 6 (nI a)).2.1 4 s = nI (b - a) := h4
  rw [inb_nI hs (by decide), gd_t, gd_t, nI_clamp (by omega), h3, e, nI_add, show a + (b - a) = b by omega]
theorem en_ok {s a b n : Nat} {σ : am_S} (hs : s < 10) (h3 : σ.2.1 3 s = nI a) (h4 : σ.2.1 4 s = nI (b - a)) (hb : b ≤ 3000) (hn : a + n ≤ b) : g_Mo_enter (nI s) (lN n) σ = some ((), am_fi (am_fi (am_fi σ 0 6 (nI (a + n))) 0 7 (nI b)) 0 8 0) := by
  rw [en_eq hs h3 h4 (by omega), pa_ok (n := n) (RU_0 (by omega) hb) hn, bd_t]
  rw [fi_cm (j := 8) (i := 6) (by decide), fi_cm (j := 7) (i := 6) (by decide), fi_fi]
theorem en_bad {s a b : Nat} {x : Int64} {σ : am_S} (hs : s < 10) (h3 : σ.2.1 3 s = nI a) (h4 : σ.2.1 4 s = nI (b - a)) (hab : a ≤ b) (hb : b ≤ 3000) (hx : x < 0 ∨ lN (b - a) < x) : g_Mo_enter (nI s) x σ = some ((), am_fi (am_fi (am_fi σ 0 6 (nI a)) 0 7 (nI b)) 0 8 1) := by
  rw [en_eq hs h3 h4 hab, pa_bad (RU_0 hab hb) (Or.inr hx), bd_t, fi_fi]
