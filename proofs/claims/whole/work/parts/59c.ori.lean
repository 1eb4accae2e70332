/-! origins, both sides -/
theorem fp_s {P : Nat → Bool} {j k : Nat} : fp P (j + 1) k = if P k then some k else fp P j (k + 1) := rfl
theorem i64_sub {a b v : Int64} : a - b = v ↔ a = b + v := by
  constructor
  · intro h
    rw [← h, Int64.add_comm, Int64.sub_add_cancel]
  · intro h
    rw [h, Int64.add_comm, Int64.add_sub_cancel]
theorem sub_l {a b : Nat} (ha : a ≤ 3000) (hb : b ≤ 3000) : (nI a - nI b).toInt64 = lN a - lN b := by
  have e : lN a = (nI a - nI b).toInt64 + lN b := by
    apply Int64.toInt_inj.mp
    rw [Int64.toInt_add, subL (by omega) (by omega), lN_toInt (by omega), lN_toInt (by omega)]
    simp only [Int.bmod]
    omega
  rw [e, Int64.add_sub_cancel]
theorem or_c {σ τ : am_S} {N U u : Nat} {fs A Z : Nat → Nat} {f : Int32} {v : Int64} (h : EV σ τ N U fs A Z) (hu : u < U) : R1 (g_Va_origin (nI u) f v σ) (fun w s => VB VW (if f = 19 then oL (fp (orP τ u v) N 0) else none) σ w s) := by
  have hl := EV_l h
  have hu4 := EV_u4 h
  have hf := EV_fl h u hu
  obtain ⟨q1, q2, q3, ⟨up, hup, q4, q4'⟩, q5, q6⟩ := EV_un h u hu
  unfold g_Va_origin
  by_cases c19 : f = 19
  · rw [if_pos c19, if_pos c19, inb_nI (by omega) (by decide), gd_t, nI_clamp (by omega), q2]
    -- before the unit nothing
    have hpre : fp (orP τ u v) N 0 = fp (orP τ u v) (N - fs u) (fs u) := by
      have := fp_skip (P := orP τ u v) (fs u) (N - fs u) 0 (fun m _ hm => by
        obtain ⟨w, hw, E⟩ := EV_en h m (by omega)
        have := q6 m (by omega) w (by omega) E.1
        unfold orP
        rw [E.2.1, decide_eq_false (fun z => by
          have := (nI_eq (by omega) (by omega)).mp z
          omega)]
        rfl)
      rw [show fs u + (N - fs u) = N by omega, Nat.zero_add] at this
      exact this
    rw [hpre]
    have key : ∀ j k, k + j = N → fs u ≤ k → ∀ n, j < n → R1 (g_Va_origin_22 n (nI u) v (nI k) σ) (fun w s => VB VW (oL (fp (orP τ u v) j k)) σ w s) := by
      intro j
      induction j with
      | zero =>
        intro k hk _ n hn
        obtain ⟨n, rfl⟩ : ∃ z, n = z + 1 := ⟨n - 1, by omega⟩
        unfold g_Va_origin_22 g_Va_origin_130
        rw [EV_n h, if_neg (nI_nlt (by omega) (by omega))]
        exact R1_b wr_c (fun w s _ k => R1_p k)
      | succ j ih =>
        intro k hk hfk n hn
        obtain ⟨n, rfl⟩ : ∃ z, n = z + 1 := ⟨n - 1, by omega⟩
        obtain ⟨w, hw, E⟩ := EV_en h k (by omega)
        obtain ⟨E1, E2, E3, _, ⟨pl, hpl, E5, E6⟩, _⟩ := E
        unfold g_Va_origin_22 g_Va_origin_130 g_Va_origin_82 g_Va_origin_87 g_Va_origin_124
        rw [EV_n h, if_pos (nI_lt (by omega) (by omega)), inb_nI (by omega) (by decide), gd_t, nI_clamp (by omega), E1, gd_t, gd_t]
        by_cases cu : w = u
        · subst cu
          rw [if_pos rfl, E5, inb_nI (n := w) (by omega) (by decide), nI_clamp (n := w) (by omega), q4, sub_l hpl hup, nI_l (n := k) (by omega), show nI k + 1 = nI (k + 1) from nI_add k 1]
          simp only [gd_t]
          have hv : lg_cmp (lN pl - lN up) v = 0 ↔ (nI pl).toInt64 = (nI up).toInt64 + v := by
            rw [cmp_eq, i64_sub, nI_l (by omega), nI_l (by omega)]
          have t46 : lg_cmp (σ.2.2 11 k) 46 = 0 ↔ tg (σ.2.2 11 k) = 46 := by rw [cmp_eq]; exact (tg_eq (c := 46) (by omega) (by omega)).symm
          have t29 : lg_cmp (σ.2.2 11 k) 29 = 0 ↔ tg (σ.2.2 11 k) = 29 := by rw [cmp_eq]; exact (tg_eq (c := 29) (by omega) (by omega)).symm
          have hP : orP τ w v k = ((decide (tg (σ.2.2 11 k) = 46) || decide (tg (σ.2.2 11 k) = 29)) && decide ((nI pl).toInt64 = (nI up).toInt64 + v)) := by
            unfold orP
            rw [E2, E3, E6, q4', decide_eq_true rfl, Bool.true_and]
          rw [fp_s, hP]
          have go : R1 (g_Va_origin_22 n (nI w) v (nI (k + 1)) σ) (fun w' s => VB VW (oL (fp (orP τ w v) j (k + 1))) σ w' s) := ih (k + 1) (by omega) (by omega) n (by omega)
          by_cases c46 : tg (σ.2.2 11 k) = 46
          · rw [if_pos (t46.mpr c46), if_neg i10, decide_eq_true c46, Bool.true_or, Bool.true_and]
            by_cases cv : (nI pl).toInt64 = (nI up).toInt64 + v
            · rw [if_pos (hv.mpr cv), decide_eq_true cv, if_pos rfl]
              exact R1_p ⟨fr_rf, rfl, Iff.rfl⟩
            · rw [if_neg (fun z => cv (hv.mp z)), decide_eq_false cv, if_neg (by decide)]
              exact go
          · rw [if_neg (fun z => c46 (t46.mp z)), decide_eq_false c46, Bool.false_or]
            by_cases c29 : tg (σ.2.2 11 k) = 29
            · rw [if_pos (t29.mpr c29), if_neg i10, decide_eq_true c29, Bool.true_and]
              by_cases cv : (nI pl).toInt64 = (nI up).toInt64 + v
              · rw [if_pos (hv.mpr cv), decide_eq_true cv, if_pos rfl]
                exact R1_p ⟨fr_rf, rfl, Iff.rfl⟩
              · rw [if_neg (fun z => cv (hv.mp z)), decide_eq_false cv, if_neg (by decide)]
                exact go
            · rw [if_neg (fun z => c29 (t29.mp z)), if_pos trivial, decide_eq_false c29, Bool.false_and, if_neg (by decide)]
              exact go
        · rw [if_neg (fun z => cu ((nI_eq (by omega) (by omega)).mp z))]
          have hnone : fp (orP τ u v) (j + 1) k = none := fp_none (j + 1) k (fun m h1 h2 => by
            obtain ⟨w', hw', E'⟩ := EV_en h m (by omega)
            have hk' := (q6 k (by omega) w (by omega) E1).mp hfk
            obtain ⟨r1, r2, r3, r4, r5, r6⟩ := EV_un h w hw
            have a1 := (r6 k (by omega) w (by omega) E1).mpr (Nat.le_refl _)
            have a2 := (r6 m (by omega) w' (by omega) E'.1).mp (by omega)
            unfold orP
            rw [E'.2.1, decide_eq_false (fun z => by
              have := (nI_eq (by omega) (by omega)).mp z
              omega)]
            rfl)
          rw [hnone]
          exact R1_b wr_c (fun w s _ k => R1_p k)
    exact key (N - fs u) (fs u) (by omega) (Nat.le_refl _) 4000 (by omega)
  · rw [if_neg c19, if_neg c19]
    exact R1_b wr_c (fun w s _ k => R1_p k)
theorem fo_m {e k : Nat} {τ : am_S} (he : e < 200) (hk : k < 11) : g_Mo_formAt (nI e) (nI k) τ = some (τ.2.1 20 (11 * e + k), τ) := by
  unfold g_Mo_formAt
  rw [show (11 : Int32) * nI e = nI (11 * e) from pk_mul 11 e, nI_add, inb_nI (by omega) (by decide), gd_t, nI_clamp (by omega)]
theorem va_m {e k : Nat} {τ : am_S} (he : e < 200) (hk : k < 11) : g_Mo_valueAt (nI e) (nI k) τ = some (τ.2.2 21 (11 * e + k), τ) := by
  unfold g_Mo_valueAt
  rw [show (11 : Int32) * nI e = nI (11 * e) from pk_mul 11 e, nI_add, inb_nI (by omega) (by decide), gd_t, nI_clamp (by omega)]
theorem FZ_pos {v : Int32} (h : FZ v) : 0 < v ↔ ¬ v = 0 := by
  rcases h with rfl | ⟨f, hf, rfl⟩
  · exact ⟨fun z => absurd z (by decide), fun z => absurd rfl z⟩
  · have := FMS_lt f hf
    exact ⟨fun _ => f0 hf, fun _ => nI_lt (a := 0) (by omega) (by omega)⟩
theorem ha_m {e k : Nat} {τ : am_S} (he : e < 200) (hk : k < 11) (hz : FZ (τ.2.1 20 (11 * e + k))) : g_Mo_has (nI e) (nI k) τ = some (if τ.2.1 20 (11 * e + k) = 0 then 0 else 1, τ) := by
  unfold g_Mo_has g_Mo_has_19
  rw [show (11 : Int32) * nI e = nI (11 * e) from pk_mul 11 e, nI_add, inb_nI (by omega) (by decide), gd_t, nI_clamp (by omega)]
  by_cases c : τ.2.1 20 (11 * e + k) = 0
  · rw [if_neg (fun z => (FZ_pos hz).mp z c), if_pos c]
    rfl
  · rw [if_pos ((FZ_pos hz).mpr c), if_neg c]
    rfl
theorem ha_c {e k : Nat} {σ : am_S} (he : e < 200) (hk : k < 7) : g_En_has (nI e) (nI k) σ = some (if σ.2.1 15 (7 * e + k) = 0 then 0 else 1, σ) := by
  unfold g_En_has g_En_has_19
  rw [show nI e * 7 = nI (7 * e) from (pk_mul e 7).trans (by rw [Nat.mul_comm]), nI_add, inb_nI (by omega) (by decide), gd_t, nI_clamp (by omega)]
  by_cases c : σ.2.1 15 (7 * e + k) = 0
  · rw [if_pos c, if_pos c]; rfl
  · rw [if_neg c, if_neg c]; rfl
theorem vo_c {e k : Nat} {σ : am_S} (he : e < 200) (hk : k < 7) : g_En_valueOf (nI e) (nI k) σ = some (σ.2.2 16 (7 * e + k), σ) := by
  unfold g_En_valueOf
  rw [show nI e * 7 = nI (7 * e) from (pk_mul e 7).trans (by rw [Nat.mul_comm]), nI_add, inb_nI (by omega) (by decide), gd_t, nI_clamp (by omega)]
theorem or_m {σ τ : am_S} {N U e u : Nat} {fs A Z : Nat → Nat} (h : EV σ τ N U fs A Z) (he : e < N) (hu : u < U) (h19 : τ.2.1 19 e = nI u) : g_Mo_origin (nI e) τ = some (oN (if τ.2.1 20 (11 * e + 4) = 19 then fp (orP τ u (τ.2.2 21 (11 * e + 4))) N 0 else none), τ) := by
  have hl := EV_l h
  have hu4 := EV_u4 h
  unfold g_Mo_origin
  rw [show g_Mo_formAt (nI e) 4 τ = _ from fo_m (k := 4) (by omega) (by decide), bd_t]
  by_cases c19 : τ.2.1 20 (11 * e + 4) = 19
  · rw [if_pos c19, if_pos c19, inb_nI (by omega) (by decide), gd_t, nI_clamp (by omega), h19, inb_nI (by omega) (by decide), gd_t, show g_Mo_valueAt (nI e) 4 τ = _ from va_m (k := 4) (by omega) (by decide), bd_t, nI_clamp (by omega)]
    have key : ∀ j k, k + j = N → ∀ n, j < n → g_Mo_origin_36 n (nI e) ((τ.2.1 13 u).toInt64 + τ.2.2 21 (11 * e + 4)) (nI k) τ = some (oN (fp (orP τ u (τ.2.2 21 (11 * e + 4))) j k), τ) := by
      intro j
      induction j with
      | zero =>
        intro k hk n hn
        obtain ⟨n, rfl⟩ : ∃ z, n = z + 1 := ⟨n - 1, by omega⟩
        rw [g_Mo_origin_36, EV_m h, if_neg (nI_nlt (by omega) (by omega))]
        rfl
      | succ j ih =>
        intro k hk n hn
        obtain ⟨n, rfl⟩ : ∃ z, n = z + 1 := ⟨n - 1, by omega⟩
        unfold g_Mo_origin_36 g_Mo_origin_98 g_Mo_origin_101
        rw [EV_m h, if_pos (nI_lt (by omega) (by omega)), inb_nI (n := k) (by omega) (by decide), gd_t, inb_nI (n := e) (by omega) (by decide), gd_t, gd_t, gd_t, gd_t, nI_clamp (n := k) (by omega), nI_clamp (n := e) (by omega), h19, show nI k + 1 = nI (k + 1) from nI_add k 1, ih (k + 1) (by omega) n (by omega)]
        rw [fp_s]
        unfold orP
        by_cases c1 : τ.2.1 19 k = nI u
        · rw [if_pos c1, decide_eq_true c1, Bool.true_and]
          by_cases c2 : (τ.2.1 16 k).toInt64 = (τ.2.1 13 u).toInt64 + τ.2.2 21 (11 * e + 4)
          · rw [if_pos ((cmp_eq _ _).mpr c2), decide_eq_true c2, Bool.and_true]
            by_cases c3 : τ.2.1 17 k = 46
            · rw [if_pos c3, decide_eq_true c3, Bool.true_or, if_pos rfl]
              try rfl
            · rw [if_neg c3, decide_eq_false c3, Bool.false_or]
              by_cases c4 : τ.2.1 17 k = 29
              · rw [if_pos c4, decide_eq_true c4, if_pos rfl]
                try rfl
              · rw [if_neg c4, decide_eq_false c4, if_neg (by decide)]
          · rw [if_neg (fun z => c2 ((cmp_eq _ _).mp z)), decide_eq_false c2, Bool.and_false, if_neg (by decide)]
        · rw [if_neg c1, decide_eq_false c1, Bool.false_and, Bool.false_and, if_neg (by decide)]
    exact key N 0 (by omega) 4000 (by omega)
  · rw [if_neg c19, if_neg c19]
    rfl
