/-! attributes that count -/
def KN : List Nat := [3, 17, 18, 85, 49, 88, 89, 16, 114, 115, 116]
theorem KN_lt : ∀ k, k < 11 → KN.getD k 0 < 200 := by decide
theorem KN_nz : ∀ k, k < 11 → ¬ 0 = KN.getD k 0 := by decide
theorem KN_inj : ∀ k, k < 11 → ∀ k', k' < 11 → KN.getD k 0 = KN.getD k' 0 → k = k' := by decide
theorem KN_eq {x : Int64} {k k' : Nat} (hk : k < 11) (hk' : k' < 11) (h : x = lN (KN.getD k 0)) (h' : x = lN (KN.getD k' 0)) : k = k' := by
  have a := KN_lt k hk
  have b := KN_lt k' hk'
  exact KN_inj k hk k' hk' ((lN_eq (by omega) (by omega)).mp (h.symm.trans h'))
theorem cs66 : ∀ k, k < 7 → (am_cs S_c 66 k).toInt64 = lN (KN.getD k 0) := by
  show ∀ k, k < 7 → (cs_c 66 k).toInt64 = lN (KN.getD k 0)
  decide
theorem cs67 : ∀ k, k < 4 → (am_cs S_c 67 k).toInt64 = lN (KN.getD (7 + k) 0) := by
  show ∀ k, k < 4 → (cs_c 67 k).toInt64 = lN (KN.getD (7 + k) 0)
  decide
theorem ix66_l {x : Int64} {σ : am_S} : ∀ j k, k + j = 7 → (∀ m, m < k → ¬ x = lN (KN.getD (m) 0)) → ∀ n, j < n → R1 (g_F_indexOf_66_2 n x (nI k) σ) (fun v s => s = σ ∧ ((∃ k, k < 7 ∧ v = nI k ∧ x = lN (KN.getD (k) 0)) ∨ (v = -1 ∧ ∀ k, k < 7 → ¬ x = lN (KN.getD (k) 0)))) := by
  intro j
  induction j with
  | zero =>
    intro k hk h n hn
    obtain ⟨n, rfl⟩ : ∃ z, n = z + 1 := ⟨n - 1, by omega⟩
    rw [g_F_indexOf_66_2, if_neg (show ¬ nI k < Int32.ofNat 7 from nI_nlt (b := 7) (by omega) (by omega))]
    exact R1_p ⟨rfl, Or.inr ⟨rfl, fun m hm => h m (by omega)⟩⟩
  | succ j ih =>
    intro k hk h n hn
    obtain ⟨n, rfl⟩ : ∃ z, n = z + 1 := ⟨n - 1, by omega⟩
    rw [g_F_indexOf_66_2, if_pos (show nI k < Int32.ofNat 7 from nI_lt (b := 7) (by omega) (by omega)), inb_nI (by omega) (by decide), gd_t, nI_clamp (by omega), cs66 k (by omega)]
    by_cases c : x = lN (KN.getD (k) 0)
    · rw [if_pos ((cmp_eq _ _).mpr c.symm)]
      exact R1_p ⟨rfl, Or.inl ⟨k, by omega, rfl, c⟩⟩
    · rw [if_neg (fun z => c ((cmp_eq _ _).mp z).symm), show nI k + 1 = nI (k + 1) from nI_add k 1]
      exact ih (k + 1) (by omega) (lt_s h c) n (by omega)
theorem ix66 {x : Int64} {σ : am_S} : R1 (g_F_indexOf_66 x σ) (fun v s => s = σ ∧ ((∃ k, k < 7 ∧ v = nI k ∧ x = lN (KN.getD (k) 0)) ∨ (v = -1 ∧ ∀ k, k < 7 → ¬ x = lN (KN.getD (k) 0)))) := ix66_l 7 0 rfl (fun m hm => absurd hm (by omega)) 4000 (by omega)
theorem ix67_l {x : Int64} {σ : am_S} : ∀ j k, k + j = 4 → (∀ m, m < k → ¬ x = lN (KN.getD (7 + m) 0)) → ∀ n, j < n → R1 (g_F_indexOf_67_2 n x (nI k) σ) (fun v s => s = σ ∧ ((∃ k, k < 4 ∧ v = nI k ∧ x = lN (KN.getD (7 + k) 0)) ∨ (v = -1 ∧ ∀ k, k < 4 → ¬ x = lN (KN.getD (7 + k) 0)))) := by
  intro j
  induction j with
  | zero =>
    intro k hk h n hn
    obtain ⟨n, rfl⟩ : ∃ z, n = z + 1 := ⟨n - 1, by omega⟩
    rw [g_F_indexOf_67_2, if_neg (show ¬ nI k < Int32.ofNat 4 from nI_nlt (b := 4) (by omega) (by omega))]
    exact R1_p ⟨rfl, Or.inr ⟨rfl, fun m hm => h m (by omega)⟩⟩
  | succ j ih =>
    intro k hk h n hn
    obtain ⟨n, rfl⟩ : ∃ z, n = z + 1 := ⟨n - 1, by omega⟩
    rw [g_F_indexOf_67_2, if_pos (show nI k < Int32.ofNat 4 from nI_lt (b := 4) (by omega) (by omega)), inb_nI (by omega) (by decide), gd_t, nI_clamp (by omega), cs67 k (by omega)]
    by_cases c : x = lN (KN.getD (7 + k) 0)
    · rw [if_pos ((cmp_eq _ _).mpr c.symm)]
      exact R1_p ⟨rfl, Or.inl ⟨k, by omega, rfl, c⟩⟩
    · rw [if_neg (fun z => c ((cmp_eq _ _).mp z).symm), show nI k + 1 = nI (k + 1) from nI_add k 1]
      exact ih (k + 1) (by omega) (lt_s h c) n (by omega)
theorem ix67 {x : Int64} {σ : am_S} : R1 (g_F_indexOf_67 x σ) (fun v s => s = σ ∧ ((∃ k, k < 4 ∧ v = nI k ∧ x = lN (KN.getD (7 + k) 0)) ∨ (v = -1 ∧ ∀ k, k < 4 → ¬ x = lN (KN.getD (7 + k) 0)))) := ix67_l 4 0 rfl (fun m hm => absurd hm (by omega)) 4000 (by omega)
theorem kn_19 {n : Nat} {σ : am_S} (h : n ≤ 255) : R1 (g_Mo_known_19 (lN n) σ) (fun v s => s = σ ∧ ((∃ k, k < 11 ∧ v = nI k ∧ n = KN.getD k 0) ∨ (v = -1 ∧ ∀ k, k < 11 → ¬ n = KN.getD k 0))) := by
  unfold g_Mo_known_19
  rw [lN_i]
  by_cases c3 : n = 3
  · rw [if_pos (show nI n = 3 from c3 ▸ rfl)]
    exact R1_p ⟨rfl, Or.inl ⟨0, by decide, rfl, c3⟩⟩
  · rw [if_neg (show ¬ nI n = 3 from fun z => c3 ((nI_eq (b := 3) (by omega) (by omega)).mp z))]
    by_cases c16 : n = 16
    · rw [if_pos (show nI n = 16 from c16 ▸ rfl)]
      exact R1_p ⟨rfl, Or.inl ⟨7, by decide, rfl, c16⟩⟩
    · rw [if_neg (show ¬ nI n = 16 from fun z => c16 ((nI_eq (b := 16) (by omega) (by omega)).mp z))]
      by_cases c17 : n = 17
      · rw [if_pos (show nI n = 17 from c17 ▸ rfl)]
        exact R1_p ⟨rfl, Or.inl ⟨1, by decide, rfl, c17⟩⟩
      · rw [if_neg (show ¬ nI n = 17 from fun z => c17 ((nI_eq (b := 17) (by omega) (by omega)).mp z))]
        by_cases c18 : n = 18
        · rw [if_pos (show nI n = 18 from c18 ▸ rfl)]
          exact R1_p ⟨rfl, Or.inl ⟨2, by decide, rfl, c18⟩⟩
        · rw [if_neg (show ¬ nI n = 18 from fun z => c18 ((nI_eq (b := 18) (by omega) (by omega)).mp z))]
          by_cases c49 : n = 49
          · rw [if_pos (show nI n = 49 from c49 ▸ rfl)]
            exact R1_p ⟨rfl, Or.inl ⟨4, by decide, rfl, c49⟩⟩
          · rw [if_neg (show ¬ nI n = 49 from fun z => c49 ((nI_eq (b := 49) (by omega) (by omega)).mp z))]
            by_cases c85 : n = 85
            · rw [if_pos (show nI n = 85 from c85 ▸ rfl)]
              exact R1_p ⟨rfl, Or.inl ⟨3, by decide, rfl, c85⟩⟩
            · rw [if_neg (show ¬ nI n = 85 from fun z => c85 ((nI_eq (b := 85) (by omega) (by omega)).mp z))]
              by_cases c88 : n = 88
              · rw [if_pos (show nI n = 88 from c88 ▸ rfl)]
                exact R1_p ⟨rfl, Or.inl ⟨5, by decide, rfl, c88⟩⟩
              · rw [if_neg (show ¬ nI n = 88 from fun z => c88 ((nI_eq (b := 88) (by omega) (by omega)).mp z))]
                by_cases c89 : n = 89
                · rw [if_pos (show nI n = 89 from c89 ▸ rfl)]
                  exact R1_p ⟨rfl, Or.inl ⟨6, by decide, rfl, c89⟩⟩
                · rw [if_neg (show ¬ nI n = 89 from fun z => c89 ((nI_eq (b := 89) (by omega) (by omega)).mp z))]
                  by_cases c114 : n = 114
                  · rw [if_pos (show nI n = 114 from c114 ▸ rfl)]
                    exact R1_p ⟨rfl, Or.inl ⟨8, by decide, rfl, c114⟩⟩
                  · rw [if_neg (show ¬ nI n = 114 from fun z => c114 ((nI_eq (b := 114) (by omega) (by omega)).mp z))]
                    by_cases c115 : n = 115
                    · rw [if_pos (show nI n = 115 from c115 ▸ rfl)]
                      exact R1_p ⟨rfl, Or.inl ⟨9, by decide, rfl, c115⟩⟩
                    · rw [if_neg (show ¬ nI n = 115 from fun z => c115 ((nI_eq (b := 115) (by omega) (by omega)).mp z))]
                      by_cases c116 : n = 116
                      · rw [if_pos (show nI n = 116 from c116 ▸ rfl)]
                        exact R1_p ⟨rfl, Or.inl ⟨10, by decide, rfl, c116⟩⟩
                      · rw [if_neg (show ¬ nI n = 116 from fun z => c116 ((nI_eq (b := 116) (by omega) (by omega)).mp z))]
                        refine R1_p ⟨rfl, Or.inr ⟨rfl, fun k hk => ?_⟩⟩
                        match k, hk with
                        | 0, _ => exact c3
                        | 1, _ => exact c17
                        | 2, _ => exact c18
                        | 3, _ => exact c85
                        | 4, _ => exact c49
                        | 5, _ => exact c88
                        | 6, _ => exact c89
                        | 7, _ => exact c16
                        | 8, _ => exact c114
                        | 9, _ => exact c115
                        | 10, _ => exact c116
theorem kn_m {x : Int64} {σ : am_S} : R1 (g_Mo_known x σ) (fun v s => s = σ ∧ ((∃ k, k < 11 ∧ v = nI k ∧ x = lN (KN.getD k 0)) ∨ (v = -1 ∧ ∀ k, k < 11 → ¬ x = lN (KN.getD k 0)))) := by
  unfold g_Mo_known g_Mo_known_14
  have out : (x < 0 ∨ lN 255 < x) → R1 (g_Mo_known_19 0 σ) (fun v s => s = σ ∧ ((∃ k, k < 11 ∧ v = nI k ∧ x = lN (KN.getD k 0)) ∨ (v = -1 ∧ ∀ k, k < 11 → ¬ x = lN (KN.getD k 0)))) := fun c => by
    refine R1_m (kn_19 (n := 0) (by omega)) (fun v s _ k => ⟨k.1, ?_⟩)
    rcases k.2 with ⟨k, hk, _, e⟩ | k
    · exact absurd e (KN_nz k hk)
    · refine Or.inr ⟨k.1, fun i hi z => ?_⟩
      have := KN_lt i hi
      have := in_not (n := KN.getD i 0) (d := 255) (by omega) (by omega)
      rw [z] at c
      rcases c with c | c
      · exact this.1 c
      · exact this.2 c
  by_cases c1 : x < 0
  · rw [if_pos ((cmp_lt _ _).mpr c1)]
    exact out (Or.inl c1)
  · rw [if_neg (fun z => c1 ((cmp_lt _ _).mp z))]
    by_cases c2 : lN 255 < x
    · rw [if_pos (show 0 < lg_cmp x 255 from (cmp_gt _ _).mpr c2)]
      exact out (Or.inr c2)
    · rw [if_neg (show ¬ 0 < lg_cmp x 255 from fun z => c2 ((cmp_gt _ _).mp z))]
      obtain ⟨n, hn, rfl⟩ := in_pos (d := 255) (by omega) (fun z => z.elim c1 c2)
      refine R1_m (kn_19 hn) (fun v s _ k => ⟨k.1, ?_⟩)
      rcases k.2 with ⟨k, hk, e1, e⟩ | k
      · exact Or.inl ⟨k, hk, e1, by rw [e]⟩
      · refine Or.inr ⟨k.1, fun i hi z => k.2 i hi ?_⟩
        have := KN_lt i hi
        exact (lN_eq (by omega) (by omega)).mp z
/-! tags -/
def tg (x : Int64) : Int32 := if x < 0 ∨ lN 255 < x then 0 else x.toInt32
def LK (x : Int64) : Prop := x = 17 ∨ x = 46 ∨ x = 29 ∨ x = 11
theorem tg_eq {x : Int64} {c : Nat} (hc : 0 < c) (h2 : c ≤ 255) : tg x = nI c ↔ x = lN c := by
  unfold tg
  constructor
  · intro h
    by_cases q : x < 0 ∨ lN 255 < x
    · rw [if_pos q] at h
      exact absurd h.symm (nI_ne0 hc (by omega))
    · rw [if_neg q] at h
      obtain ⟨n, hn, rfl⟩ := in_pos (d := 255) (by omega) q
      rw [lN_i] at h
      rw [(nI_eq (by omega) (by omega)).mp h]
  · intro h
    rw [h]
    have := in_not (n := c) (d := 255) (by omega) (by omega)
    rw [if_neg (fun z => z.elim this.1 this.2), lN_i]
theorem la_c {e : Nat} {σ : am_S} (he : e < 200) : R1 (g_En_isLookedAt (nI e) σ) (fun v s => s = σ ∧ ((v = 1 ∧ LK (σ.2.2 11 e)) ∨ (v = 0 ∧ ¬ LK (σ.2.2 11 e)))) := by
  unfold g_En_isLookedAt g_En_isLookedAt_52 g_En_isLookedAt_57
  rw [inb_nI he (by decide), nI_clamp (by omega), gd_t, gd_t, gd_t, gd_t]
  by_cases c1 : σ.2.2 11 e = 17
  · rw [if_pos ((cmp_eq _ _).mpr c1)]
    exact R1_p ⟨rfl, Or.inl ⟨rfl, Or.inl c1⟩⟩
  · rw [if_neg (fun z => c1 ((cmp_eq _ _).mp z))]
    by_cases c2 : σ.2.2 11 e = 46
    · rw [if_pos ((cmp_eq _ _).mpr c2)]
      exact R1_p ⟨rfl, Or.inl ⟨rfl, Or.inr (Or.inl c2)⟩⟩
    · rw [if_neg (fun z => c2 ((cmp_eq _ _).mp z))]
      by_cases c3 : σ.2.2 11 e = 29
      · rw [if_pos ((cmp_eq _ _).mpr c3)]
        exact R1_p ⟨rfl, Or.inl ⟨rfl, Or.inr (Or.inr (Or.inl c3))⟩⟩
      · rw [if_neg (fun z => c3 ((cmp_eq _ _).mp z))]
        by_cases c4 : σ.2.2 11 e = 11
        · rw [if_pos ((cmp_eq _ _).mpr c4)]
          exact R1_p ⟨rfl, Or.inl ⟨rfl, Or.inr (Or.inr (Or.inr c4))⟩⟩
        · rw [if_neg (fun z => c4 ((cmp_eq _ _).mp z))]
          exact R1_p ⟨rfl, Or.inr ⟨rfl, fun z => by rcases z with z | z | z | z <;> first | exact c1 z | exact c2 z | exact c3 z | exact c4 z⟩⟩
/-- what keep leaves -/
def KP (x : Int64) (f v' : Int32) (v : Int64) (e u : Nat) (σ s : am_S) : Prop := (∃ k, k < 7 ∧ x = lN (KN.getD k 0) ∧ LK (σ.2.2 11 e) ∧ σ.2.1 15 (7 * e + k) = v' ∧ s = am_al (am_ai σ 15 (7 * e + k) f) 16 (7 * e + k) v) ∨ (∃ k, k < 4 ∧ x = lN (KN.getD (7 + k) 0) ∧ σ.2.2 11 e = 17 ∧ σ.2.1 19 (4 * u + k) = v' ∧ s = am_al (am_ai σ 19 (4 * u + k) f) 20 (4 * u + k) v) ∨ (s = σ ∧ (∀ k, k < 7 → x = lN (KN.getD k 0) → LK (σ.2.2 11 e) → ¬ σ.2.1 15 (7 * e + k) = v') ∧ (∀ k, k < 4 → x = lN (KN.getD (7 + k) 0) → σ.2.2 11 e = 17 → ¬ σ.2.1 19 (4 * u + k) = v'))
theorem kp_c {x v : Int64} {f : Int32} {e u : Nat} {σ : am_S} (he : e < 200) (hu : u < 4) (h10 : σ.1.1 10 10 = nI (e + 1)) (h13 : σ.2.1 13 e = nI u) : R1 (g_En_keep x f v σ) (fun _ s => KP x f 0 v e u σ s) := by
  unfold g_En_keep g_En_keep_63 g_En_keep_109
  rw [h10, show nI (e + 1) - 1 = nI e from nI_pred e]
  refine R1_b ix66 (fun v1 s1 _ k1 => ?_)
  obtain ⟨rfl, k1⟩ := k1
  refine R1_b ix67 (fun v2 s2 _ k2 => ?_)
  obtain ⟨rfl, k2⟩ := k2
  rcases k1 with ⟨k, hk, rfl, ex⟩ | ⟨rfl, n1⟩
  · rcases k2 with ⟨k', hk', rfl, ex'⟩ | ⟨rfl, n2⟩
    · exact absurd (KN_eq (by omega) (by omega) ex ex') (by omega)
    · rw [if_neg (nI_ne (by omega))]
      refine R1_b (la_c he) (fun v3 s3 _ k3 => ?_)
      obtain ⟨rfl, k3⟩ := k3
      rcases k3 with ⟨rfl, k3⟩ | ⟨rfl, k3⟩
      · rw [if_neg i10]
        unfold g_En_keepFirst_15_16 g_En_keepFirst_15_16_15
        rw [show nI e * 7 = nI (7 * e) from (pk_mul e 7).trans (by rw [Nat.mul_comm]), nI_add, inb_nI (by omega) (by decide), gd_t, gd_t, gd_t, nI_clamp (by omega)]
        by_cases c : s3.2.1 15 (7 * e + k) = 0
        · rw [if_pos c, bd_t, if_pos rfl]
          exact R1_p (Or.inl ⟨k, hk, ex, k3, c, rfl⟩)
        · rw [if_neg c, bd_t, if_pos rfl]
          exact R1_p (Or.inr (Or.inr ⟨rfl, fun k' hk' ex' _ => by rw [← KN_eq (by omega) (by omega) ex ex']; exact c, fun k' hk' ex' _ => absurd ex' (n2 k' hk')⟩))
      · rw [if_pos rfl, if_pos rfl]
        exact R1_p (Or.inr (Or.inr ⟨rfl, fun k' hk' ex' l => absurd l k3, fun k' hk' ex' _ => absurd ex' (n2 k' hk')⟩))
  · rw [if_pos rfl]
    rcases k2 with ⟨k', hk', rfl, ex'⟩ | ⟨rfl, n2⟩
    · rw [if_neg (nI_ne (by omega)), inb_nI he (by decide), gd_t, nI_clamp (by omega), gd_t]
      by_cases c17 : s2.2.2 11 e = 17
      · rw [if_pos ((cmp_eq _ _).mpr c17), h13]
        unfold g_En_keepFirst_19_20 g_En_keepFirst_19_20_15
        rw [show nI u * 4 = nI (4 * u) from (pk_mul u 4).trans (by rw [Nat.mul_comm]), nI_add, inb_nI (by omega) (by decide), gd_t, gd_t, gd_t, nI_clamp (by omega)]
        by_cases c : s2.2.1 19 (4 * u + k') = 0
        · rw [if_pos c, bd_t]
          exact R1_p (Or.inr (Or.inl ⟨k', hk', ex', c17, c, rfl⟩))
        · rw [if_neg c, bd_t]
          exact R1_p (Or.inr (Or.inr ⟨rfl, fun k hk ex _ => absurd ex (n1 k hk), fun k hk ex _ => by
            have := KN_eq (k := 7 + k') (k' := 7 + k) (by omega) (by omega) ex' ex
            rw [show k = k' by omega]; exact c⟩))
      · rw [if_neg (fun z => c17 ((cmp_eq _ _).mp z))]
        exact R1_p (Or.inr (Or.inr ⟨rfl, fun k hk ex _ => absurd ex (n1 k hk), fun k hk ex l => absurd l c17⟩))
    · rw [if_pos rfl]
      exact R1_p (Or.inr (Or.inr ⟨rfl, fun k hk ex _ => absurd ex (n1 k hk), fun k hk ex _ => absurd ex (n2 k hk)⟩))
