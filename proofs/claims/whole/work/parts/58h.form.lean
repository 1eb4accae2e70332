/-! forms -/
def isCF (x : Int64) : Prop := x = 11 ∨ x = 5 ∨ x = 6 ∨ x = 7 ∨ x = 13 ∨ x = 15 ∨ x = 33 ∨ x = 25
def isTF (x : Int64) : Prop := x = 8 ∨ x = 14 ∨ x = 31 ∨ x = 37
def isOF (x : Int64) : Prop := x = 19 ∨ x = 23 ∨ x = 24 ∨ x = 27 ∨ x = 35
def isFM (x : Int64) : Prop := x = 1 ∨ isCF x ∨ isTF x ∨ isOF x
theorem cf_c {x : Int64} {σ : am_S} : R1 (g_Ab_isConstantForm x σ) (fun v s => s = σ ∧ ((v = 1 ∧ isCF x) ∨ (v = 0 ∧ ¬ isCF x))) := by
  unfold g_Ab_isConstantForm g_Ab_isConstantForm_64 g_Ab_isConstantForm_69
  by_cases c11 : x = 11
  · rw [if_pos ((cmp_eq _ _).mpr c11)]
    exact R1_p ⟨rfl, Or.inl ⟨rfl, Or.inl c11⟩⟩
  · rw [if_neg (fun z => c11 ((cmp_eq _ _).mp z))]
    by_cases c5 : x = 5
    · rw [if_pos ((cmp_eq _ _).mpr c5)]
      exact R1_p ⟨rfl, Or.inl ⟨rfl, Or.inr (Or.inl c5)⟩⟩
    · rw [if_neg (fun z => c5 ((cmp_eq _ _).mp z))]
      by_cases c6 : x = 6
      · rw [if_pos ((cmp_eq _ _).mpr c6)]
        exact R1_p ⟨rfl, Or.inl ⟨rfl, Or.inr (Or.inr (Or.inl c6))⟩⟩
      · rw [if_neg (fun z => c6 ((cmp_eq _ _).mp z))]
        by_cases c7 : x = 7
        · rw [if_pos ((cmp_eq _ _).mpr c7)]
          exact R1_p ⟨rfl, Or.inl ⟨rfl, Or.inr (Or.inr (Or.inr (Or.inl c7)))⟩⟩
        · rw [if_neg (fun z => c7 ((cmp_eq _ _).mp z))]
          by_cases c13 : x = 13
          · rw [if_pos ((cmp_eq _ _).mpr c13)]
            exact R1_p ⟨rfl, Or.inl ⟨rfl, Or.inr (Or.inr (Or.inr (Or.inr (Or.inl c13))))⟩⟩
          · rw [if_neg (fun z => c13 ((cmp_eq _ _).mp z))]
            by_cases c15 : x = 15
            · rw [if_pos ((cmp_eq _ _).mpr c15)]
              exact R1_p ⟨rfl, Or.inl ⟨rfl, Or.inr (Or.inr (Or.inr (Or.inr (Or.inr (Or.inl c15)))))⟩⟩
            · rw [if_neg (fun z => c15 ((cmp_eq _ _).mp z))]
              by_cases c33 : x = 33
              · rw [if_pos ((cmp_eq _ _).mpr c33)]
                exact R1_p ⟨rfl, Or.inl ⟨rfl, Or.inr (Or.inr (Or.inr (Or.inr (Or.inr (Or.inr (Or.inl c33))))))⟩⟩
              · rw [if_neg (fun z => c33 ((cmp_eq _ _).mp z))]
                by_cases c25 : x = 25
                · rw [if_pos ((cmp_eq _ _).mpr c25)]
                  exact R1_p ⟨rfl, Or.inl ⟨rfl, Or.inr (Or.inr (Or.inr (Or.inr (Or.inr (Or.inr (Or.inr (c25)))))))⟩⟩
                · rw [if_neg (fun z => c25 ((cmp_eq _ _).mp z))]
                  exact R1_p ⟨rfl, Or.inr ⟨rfl, fun z => by rcases z with z | z | z | z | z | z | z | z <;> first | exact c11 z | exact c5 z | exact c6 z | exact c7 z | exact c13 z | exact c15 z | exact c33 z | exact c25 z⟩⟩
theorem tf_c {x : Int64} {σ : am_S} : R1 (g_Ab_isTextForm x σ) (fun v s => s = σ ∧ ((v = 1 ∧ isTF x) ∨ (v = 0 ∧ ¬ isTF x))) := by
  unfold g_Ab_isTextForm g_Ab_isTextForm_32 g_Ab_isTextForm_37
  by_cases c8 : x = 8
  · rw [if_pos ((cmp_eq _ _).mpr c8)]
    exact R1_p ⟨rfl, Or.inl ⟨rfl, Or.inl c8⟩⟩
  · rw [if_neg (fun z => c8 ((cmp_eq _ _).mp z))]
    by_cases c14 : x = 14
    · rw [if_pos ((cmp_eq _ _).mpr c14)]
      exact R1_p ⟨rfl, Or.inl ⟨rfl, Or.inr (Or.inl c14)⟩⟩
    · rw [if_neg (fun z => c14 ((cmp_eq _ _).mp z))]
      by_cases c31 : x = 31
      · rw [if_pos ((cmp_eq _ _).mpr c31)]
        exact R1_p ⟨rfl, Or.inl ⟨rfl, Or.inr (Or.inr (Or.inl c31))⟩⟩
      · rw [if_neg (fun z => c31 ((cmp_eq _ _).mp z))]
        by_cases c37 : x = 37
        · rw [if_pos ((cmp_eq _ _).mpr c37)]
          exact R1_p ⟨rfl, Or.inl ⟨rfl, Or.inr (Or.inr (Or.inr (c37)))⟩⟩
        · rw [if_neg (fun z => c37 ((cmp_eq _ _).mp z))]
          exact R1_p ⟨rfl, Or.inr ⟨rfl, fun z => by rcases z with z | z | z | z <;> first | exact c8 z | exact c14 z | exact c31 z | exact c37 z⟩⟩
theorem fm_c {x : Int64} {σ : am_S} : R1 (g_Ab_isForm x σ) (fun v s => s = σ ∧ ((v = 1 ∧ isFM x) ∨ (v = 0 ∧ ¬ isFM x))) := by
  unfold g_Ab_isForm g_Ab_isForm_60 g_Ab_isForm_65
  by_cases c1 : x = 1
  · rw [if_pos ((cmp_eq _ _).mpr c1)]
    exact R1_p ⟨rfl, Or.inl ⟨rfl, Or.inl c1⟩⟩
  · rw [if_neg (fun z => c1 ((cmp_eq _ _).mp z))]
    refine R1_b cf_c (fun v s _ k => ?_)
    obtain ⟨rfl, k⟩ := k
    rcases k with ⟨rfl, k⟩ | ⟨rfl, k⟩
    · rw [if_neg (by decide)]
      exact R1_p ⟨rfl, Or.inl ⟨rfl, Or.inr (Or.inl k)⟩⟩
    · rw [if_pos rfl]
      refine R1_b tf_c (fun v s2 _ k2 => ?_)
      obtain ⟨rfl, k2⟩ := k2
      rcases k2 with ⟨rfl, k2⟩ | ⟨rfl, k2⟩
      · rw [if_neg (by decide)]
        exact R1_p ⟨rfl, Or.inl ⟨rfl, Or.inr (Or.inr (Or.inl k2))⟩⟩
      · rw [if_pos rfl]
        by_cases c19 : x = 19
        · rw [if_pos ((cmp_eq _ _).mpr c19)]
          exact R1_p ⟨rfl, Or.inl ⟨rfl, Or.inr (Or.inr (Or.inr (Or.inl c19)))⟩⟩
        · rw [if_neg (fun z => c19 ((cmp_eq _ _).mp z))]
          by_cases c23 : x = 23
          · rw [if_pos ((cmp_eq _ _).mpr c23)]
            exact R1_p ⟨rfl, Or.inl ⟨rfl, Or.inr (Or.inr (Or.inr (Or.inr (Or.inl c23))))⟩⟩
          · rw [if_neg (fun z => c23 ((cmp_eq _ _).mp z))]
            by_cases c24 : x = 24
            · rw [if_pos ((cmp_eq _ _).mpr c24)]
              exact R1_p ⟨rfl, Or.inl ⟨rfl, Or.inr (Or.inr (Or.inr (Or.inr (Or.inr (Or.inl c24)))))⟩⟩
            · rw [if_neg (fun z => c24 ((cmp_eq _ _).mp z))]
              by_cases c27 : x = 27
              · rw [if_pos ((cmp_eq _ _).mpr c27)]
                exact R1_p ⟨rfl, Or.inl ⟨rfl, Or.inr (Or.inr (Or.inr (Or.inr (Or.inr (Or.inr (Or.inl c27))))))⟩⟩
              · rw [if_neg (fun z => c27 ((cmp_eq _ _).mp z))]
                by_cases c35 : x = 35
                · rw [if_pos ((cmp_eq _ _).mpr c35)]
                  exact R1_p ⟨rfl, Or.inl ⟨rfl, Or.inr (Or.inr (Or.inr (Or.inr (Or.inr (Or.inr (Or.inr (c35)))))))⟩⟩
                · rw [if_neg (fun z => c35 ((cmp_eq _ _).mp z))]
                  exact R1_p ⟨rfl, Or.inr ⟨rfl, fun z => by
                    rcases z with z | z | z | z
                    · exact c1 z
                    · exact k z
                    · exact k2 z
                    · rcases z with z | z | z | z | z <;> first | exact c19 z | exact c23 z | exact c24 z | exact c27 z | exact c35 z⟩⟩
def FMS : List Nat := [1, 5, 6, 7, 8, 11, 13, 14, 15, 19, 23, 24, 25, 27, 31, 33, 35, 37]
theorem fm_lN : ∀ f, f ∈ FMS → isFM (lN f) := by
  unfold isFM isCF isTF isOF
  decide
theorem fm_in {x : Int64} (h : isFM x) : ∃ f, f ∈ FMS ∧ x = lN f := by
  unfold isFM isCF isTF isOF at h
  rcases h with h | (h | h | h | h | h | h | h | h) | (h | h | h | h) | (h | h | h | h | h)
  · exact ⟨1, by decide, h⟩
  · exact ⟨11, by decide, h⟩
  · exact ⟨5, by decide, h⟩
  · exact ⟨6, by decide, h⟩
  · exact ⟨7, by decide, h⟩
  · exact ⟨13, by decide, h⟩
  · exact ⟨15, by decide, h⟩
  · exact ⟨33, by decide, h⟩
  · exact ⟨25, by decide, h⟩
  · exact ⟨8, by decide, h⟩
  · exact ⟨14, by decide, h⟩
  · exact ⟨31, by decide, h⟩
  · exact ⟨37, by decide, h⟩
  · exact ⟨19, by decide, h⟩
  · exact ⟨23, by decide, h⟩
  · exact ⟨24, by decide, h⟩
  · exact ⟨27, by decide, h⟩
  · exact ⟨35, by decide, h⟩
theorem fm_iff {x : Int64} : isFM x ↔ ∃ f, f ∈ FMS ∧ x = lN f := ⟨fm_in, fun ⟨f, h, e⟩ => e ▸ fm_lN f h⟩
theorem FMS_lt : ∀ f, f ∈ FMS → f < 38 ∧ 0 < f := by decide
theorem fm_19 {n : Nat} {σ : am_S} (h : n ≤ 255) : R1 (g_Mo_isForm_19 (lN n) σ) (fun v s => s = σ ∧ ((v = 1 ∧ n ∈ FMS) ∨ (v = 0 ∧ ¬ n ∈ FMS))) := by
  unfold g_Mo_isForm_19 g_Mo_isForm_184 g_Mo_isForm_186 g_Mo_isForm_188
  rw [lN_i]
  by_cases c1 : n = 1
  · rw [if_pos (show nI n = 1 from c1 ▸ rfl)]
    exact R1_p ⟨rfl, Or.inl ⟨rfl, by rw [c1]; decide⟩⟩
  · rw [if_neg (show ¬ nI n = 1 from fun z => c1 ((nI_eq (b := 1) (by omega) (by omega)).mp z))]
    by_cases c5 : n = 5
    · rw [if_pos (show nI n = 5 from c5 ▸ rfl)]
      exact R1_p ⟨rfl, Or.inl ⟨rfl, by rw [c5]; decide⟩⟩
    · rw [if_neg (show ¬ nI n = 5 from fun z => c5 ((nI_eq (b := 5) (by omega) (by omega)).mp z))]
      by_cases c6 : n = 6
      · rw [if_pos (show nI n = 6 from c6 ▸ rfl)]
        exact R1_p ⟨rfl, Or.inl ⟨rfl, by rw [c6]; decide⟩⟩
      · rw [if_neg (show ¬ nI n = 6 from fun z => c6 ((nI_eq (b := 6) (by omega) (by omega)).mp z))]
        by_cases c7 : n = 7
        · rw [if_pos (show nI n = 7 from c7 ▸ rfl)]
          exact R1_p ⟨rfl, Or.inl ⟨rfl, by rw [c7]; decide⟩⟩
        · rw [if_neg (show ¬ nI n = 7 from fun z => c7 ((nI_eq (b := 7) (by omega) (by omega)).mp z))]
          by_cases c8 : n = 8
          · rw [if_pos (show nI n = 8 from c8 ▸ rfl)]
            exact R1_p ⟨rfl, Or.inl ⟨rfl, by rw [c8]; decide⟩⟩
          · rw [if_neg (show ¬ nI n = 8 from fun z => c8 ((nI_eq (b := 8) (by omega) (by omega)).mp z))]
            by_cases c11 : n = 11
            · rw [if_pos (show nI n = 11 from c11 ▸ rfl)]
              exact R1_p ⟨rfl, Or.inl ⟨rfl, by rw [c11]; decide⟩⟩
            · rw [if_neg (show ¬ nI n = 11 from fun z => c11 ((nI_eq (b := 11) (by omega) (by omega)).mp z))]
              by_cases c13 : n = 13
              · rw [if_pos (show nI n = 13 from c13 ▸ rfl)]
                exact R1_p ⟨rfl, Or.inl ⟨rfl, by rw [c13]; decide⟩⟩
              · rw [if_neg (show ¬ nI n = 13 from fun z => c13 ((nI_eq (b := 13) (by omega) (by omega)).mp z))]
                by_cases c14 : n = 14
                · rw [if_pos (show nI n = 14 from c14 ▸ rfl)]
                  exact R1_p ⟨rfl, Or.inl ⟨rfl, by rw [c14]; decide⟩⟩
                · rw [if_neg (show ¬ nI n = 14 from fun z => c14 ((nI_eq (b := 14) (by omega) (by omega)).mp z))]
                  by_cases c15 : n = 15
                  · rw [if_pos (show nI n = 15 from c15 ▸ rfl)]
                    exact R1_p ⟨rfl, Or.inl ⟨rfl, by rw [c15]; decide⟩⟩
                  · rw [if_neg (show ¬ nI n = 15 from fun z => c15 ((nI_eq (b := 15) (by omega) (by omega)).mp z))]
                    by_cases c19 : n = 19
                    · rw [if_pos (show nI n = 19 from c19 ▸ rfl)]
                      exact R1_p ⟨rfl, Or.inl ⟨rfl, by rw [c19]; decide⟩⟩
                    · rw [if_neg (show ¬ nI n = 19 from fun z => c19 ((nI_eq (b := 19) (by omega) (by omega)).mp z))]
                      by_cases c23 : n = 23
                      · rw [if_pos (show nI n = 23 from c23 ▸ rfl)]
                        exact R1_p ⟨rfl, Or.inl ⟨rfl, by rw [c23]; decide⟩⟩
                      · rw [if_neg (show ¬ nI n = 23 from fun z => c23 ((nI_eq (b := 23) (by omega) (by omega)).mp z))]
                        by_cases c24 : n = 24
                        · rw [if_pos (show nI n = 24 from c24 ▸ rfl)]
                          exact R1_p ⟨rfl, Or.inl ⟨rfl, by rw [c24]; decide⟩⟩
                        · rw [if_neg (show ¬ nI n = 24 from fun z => c24 ((nI_eq (b := 24) (by omega) (by omega)).mp z))]
                          by_cases c25 : n = 25
                          · rw [if_pos (show nI n = 25 from c25 ▸ rfl)]
                            exact R1_p ⟨rfl, Or.inl ⟨rfl, by rw [c25]; decide⟩⟩
                          · rw [if_neg (show ¬ nI n = 25 from fun z => c25 ((nI_eq (b := 25) (by omega) (by omega)).mp z))]
                            by_cases c27 : n = 27
                            · rw [if_pos (show nI n = 27 from c27 ▸ rfl)]
                              exact R1_p ⟨rfl, Or.inl ⟨rfl, by rw [c27]; decide⟩⟩
                            · rw [if_neg (show ¬ nI n = 27 from fun z => c27 ((nI_eq (b := 27) (by omega) (by omega)).mp z))]
                              by_cases c31 : n = 31
                              · rw [if_pos (show nI n = 31 from c31 ▸ rfl)]
                                exact R1_p ⟨rfl, Or.inl ⟨rfl, by rw [c31]; decide⟩⟩
                              · rw [if_neg (show ¬ nI n = 31 from fun z => c31 ((nI_eq (b := 31) (by omega) (by omega)).mp z))]
                                by_cases c33 : n = 33
                                · rw [if_pos (show nI n = 33 from c33 ▸ rfl)]
                                  exact R1_p ⟨rfl, Or.inl ⟨rfl, by rw [c33]; decide⟩⟩
                                · rw [if_neg (show ¬ nI n = 33 from fun z => c33 ((nI_eq (b := 33) (by omega) (by omega)).mp z))]
                                  by_cases c35 : n = 35
                                  · rw [if_pos (show nI n = 35 from c35 ▸ rfl)]
                                    exact R1_p ⟨rfl, Or.inl ⟨rfl, by rw [c35]; decide⟩⟩
                                  · rw [if_neg (show ¬ nI n = 35 from fun z => c35 ((nI_eq (b := 35) (by omega) (by omega)).mp z))]
                                    by_cases c37 : n = 37
                                    · rw [if_pos (show nI n = 37 from c37 ▸ rfl)]
                                      exact R1_p ⟨rfl, Or.inl ⟨rfl, by rw [c37]; decide⟩⟩
                                    · rw [if_neg (show ¬ nI n = 37 from fun z => c37 ((nI_eq (b := 37) (by omega) (by omega)).mp z))]
                                      exact R1_p ⟨rfl, Or.inr ⟨rfl, fun z => by simp only [FMS, List.mem_cons, List.not_mem_nil, or_false] at z; omega⟩⟩
theorem fm_m {x : Int64} {σ : am_S} : R1 (g_Mo_isForm x σ) (fun v s => s = σ ∧ ((v = 1 ∧ isFM x) ∨ (v = 0 ∧ ¬ isFM x))) := by
  unfold g_Mo_isForm g_Mo_isForm_14
  have out : (x < 0 ∨ lN 255 < x) → R1 (g_Mo_isForm_19 0 σ) (fun v s => s = σ ∧ ((v = 1 ∧ isFM x) ∨ (v = 0 ∧ ¬ isFM x))) := fun c => by
    refine R1_m (fm_19 (n := 0) (by omega)) (fun v s _ k => ⟨k.1, ?_⟩)
    rcases k.2 with k | k
    · exact absurd k.2 (by decide)
    · refine Or.inr ⟨k.1, fun z => ?_⟩
      obtain ⟨f, hf, rfl⟩ := fm_in z
      have := FMS_lt f hf
      have := in_not (n := f) (d := 255) (by omega) (by omega)
      rcases c with c | c
      · exact this.1 c
      · exact this.2 c
  by_cases c1 : x < 0
  · rw [if_pos ((cmp_lt _ _).mpr c1)]
    exact out (Or.inl c1)
  · rw [if_neg (fun z => c1 ((cmp_lt _ _).mp z))]
    by_cases c2 : lN 255 < x
    · rw [if_pos (show 0 < lg_cmp x 255 from (cmp_gt _ _).mpr c2)]
      exact out (Or.inr c2)
    · rw [if_neg (show ¬ 0 < lg_cmp x 255 from fun z => c2 ((cmp_gt _ _).mp z))]
      obtain ⟨n, hn, rfl⟩ := in_pos (d := 255) (by omega) (fun z => z.elim c1 c2)
      refine R1_m (fm_19 hn) (fun v s _ k => ⟨k.1, ?_⟩)
      have hx : isFM (lN n) ↔ n ∈ FMS := ⟨fun z => by
        obtain ⟨f, hf, e⟩ := fm_in z
        have := FMS_lt f hf
        have := (lN_eq (by omega) (by omega)).mp e
        rw [this]; exact hf, fm_lN n⟩
      rw [hx]
      exact k.2
