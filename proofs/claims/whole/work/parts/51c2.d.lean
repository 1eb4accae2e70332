def g_En_hasPlaces_32 (y0 : Int32) (σ : am_S) : Option (Int32 × am_S) :=
  am_gd (z01 y0) <|
  some (y0, σ)
set_option maxHeartbeats 4000000 in
theorem t_En_hasPlaces_32 {y0 : Int32} {σ σ' : am_S} {r : Int32} (h : g_En_hasPlaces_32 y0 σ = some (r, σ')) : am_A S_c M_En_hasPlaces (32, [none, none], [.int y0], σ) (am_r S_c (fun q τ => q = some (.int r) ∧ τ = σ')) := by
  unfold g_En_hasPlaces_32 at h
  obtain ⟨c1, h⟩ := gd_some h
  exact am_ret_z ok_En_hasPlaces rfl rfl (z01_or c1) (am_lf_i h)
def g_En_hasPlaces_27 (σ : am_S) : Option (Int32 × am_S) :=
  g_En_hasPlaces_32 (1) σ
set_option maxHeartbeats 4000000 in
theorem t_En_hasPlaces_27 {σ σ' : am_S} {r : Int32} (h : g_En_hasPlaces_27 σ = some (r, σ')) : am_A S_c M_En_hasPlaces (27, [none, none], [], σ) (am_r S_c (fun q τ => q = some (.int r) ∧ τ = σ')) := by
  unfold g_En_hasPlaces_27 at h
  refine a_iconst i_En_hasPlaces_27 ?_
  refine a_goto i_En_hasPlaces_28 ?_
  exact t_En_hasPlaces_32 h
def g_En_hasPlaces_31 (σ : am_S) : Option (Int32 × am_S) :=
  g_En_hasPlaces_32 (0) σ
set_option maxHeartbeats 4000000 in
theorem t_En_hasPlaces_31 {σ σ' : am_S} {r : Int32} (h : g_En_hasPlaces_31 σ = some (r, σ')) : am_A S_c M_En_hasPlaces (31, [none, none], [], σ) (am_r S_c (fun q τ => q = some (.int r) ∧ τ = σ')) := by
  unfold g_En_hasPlaces_31 at h
  refine a_iconst i_En_hasPlaces_31 ?_
  exact t_En_hasPlaces_32 h
def g_En_hasPlaces (x1 : Int32) (σ : am_S) : Option (Int32 × am_S) :=
  am_bd (g_En_has x1 (3) σ) fun v4 σ4 =>
  if v4 = 0 then
    am_bd (g_En_has x1 (1) σ4) fun v9 σ9 =>
    if v9 = 0 then
      g_En_hasPlaces_31 σ9
    else
      am_bd (g_En_has x1 (2) σ9) fun v14 σ14 =>
      if v14 = 0 then
        g_En_hasPlaces_31 σ14
      else
        g_En_hasPlaces_27 σ14
  else
    g_En_hasPlaces_27 σ4
set_option maxHeartbeats 4000000 in
theorem t_En_hasPlaces_0 {x1 : Int32} {σ σ' : am_S} {r : Int32} (h : g_En_hasPlaces x1 σ = some (r, σ')) : am_A S_c M_En_hasPlaces (0, [some (.ref 10), some (.int x1)], [], σ) (am_r S_c (fun q τ => q = some (.int r) ∧ τ = σ')) := by
  unfold g_En_hasPlaces at h
  refine a_aload_n i_En_hasPlaces_0 rfl ?_
  refine a_iload_n i_En_hasPlaces_1 rfl ?_
  refine a_iconst i_En_hasPlaces_2 ?_
  obtain ⟨v4, σ4, e4, h⟩ := am_bd_some h
  refine am_cvd (rest := []) [.int x1, .int 3] c_En_hasPlaces_3 ⟨by decide, _, rfl⟩ rfl (Nat.le_of_ble_eq_true rfl) (t_En_has e4) ?_
  by_cases c5 : v4 = 0
  · rw [if_pos c5] at h
    refine a_iff i_En_hasPlaces_6 c5 ?_
    refine a_aload_n i_En_hasPlaces_9 rfl ?_
    refine a_iload_n i_En_hasPlaces_10 rfl ?_
    refine a_iconst i_En_hasPlaces_11 ?_
    obtain ⟨v9, σ9, e9, h⟩ := am_bd_some h
    refine am_cvd (rest := []) [.int x1, .int 1] c_En_hasPlaces_12 ⟨by decide, _, rfl⟩ rfl (Nat.le_of_ble_eq_true rfl) (t_En_has e9) ?_
    by_cases c10 : v9 = 0
    · rw [if_pos c10] at h
      refine a_ift i_En_hasPlaces_15 c10 ?_
      exact am_wk (t_En_hasPlaces_31 h) ⟨Or.inl rfl, Or.inl rfl, trivial⟩
    · rw [if_neg c10] at h
      refine a_iff i_En_hasPlaces_15 c10 ?_
      refine a_aload_n i_En_hasPlaces_18 rfl ?_
      refine a_iload_n i_En_hasPlaces_19 rfl ?_
      refine a_iconst i_En_hasPlaces_20 ?_
      obtain ⟨v14, σ14, e14, h⟩ := am_bd_some h
      refine am_cvd (rest := []) [.int x1, .int 2] c_En_hasPlaces_21 ⟨by decide, _, rfl⟩ rfl (Nat.le_of_ble_eq_true rfl) (t_En_has e14) ?_
      by_cases c15 : v14 = 0
      · rw [if_pos c15] at h
        refine a_ift i_En_hasPlaces_24 c15 ?_
        exact am_wk (t_En_hasPlaces_31 h) ⟨Or.inl rfl, Or.inl rfl, trivial⟩
      · rw [if_neg c15] at h
        refine a_iff i_En_hasPlaces_24 c15 ?_
        exact am_wk (t_En_hasPlaces_27 h) ⟨Or.inl rfl, Or.inl rfl, trivial⟩
  · rw [if_neg c5] at h
    refine a_ift i_En_hasPlaces_6 c5 ?_
    exact am_wk (t_En_hasPlaces_27 h) ⟨Or.inl rfl, Or.inl rfl, trivial⟩
theorem t_En_hasPlaces {x1 : Int32} {σ σ' : am_S} {r : Int32} (h : g_En_hasPlaces x1 σ = some (r, σ')) : am_Mt S_c M_En_hasPlaces [.ref 10, .int x1] σ (fun q τ => q = some (.int r) ∧ τ = σ') :=
  am_M_of ok_En_hasPlaces (Nat.le_of_ble_eq_true rfl) (t_En_hasPlaces_0 h)
def g_Ab_withNumber_2 : Nat → Int64 → Int32 → am_S → Option (Int32 × am_S)
  | 0, _, _, _ => none
  | n + 1, x1, x3, σ =>
  if x3 < (σ.1.1 22 7) then
    am_gd (inb x3 40) <|
    if (lg_cmp (σ.2.2 23 x3.toNatClampNeg) x1) = 0 then
      some (x3, σ)
    else
      g_Ab_withNumber_2 n x1 (x3 + 1) σ
  else
    some ((-1), σ)
set_option maxHeartbeats 4000000 in
theorem t_Ab_withNumber_2 : ∀ (n : Nat) {x1 : Int64} {x3 : Int32} {σ σ' : am_S} {r : Int32} (h : g_Ab_withNumber_2 n x1 x3 σ = some (r, σ')), am_A S_c M_Ab_withNumber (2, [some (.ref 22), some (.long x1), none, some (.int x3)], [], σ) (am_r S_c (fun q τ => q = some (.int r) ∧ τ = σ')) := by
  intro n
  induction n with
  | zero =>
    intro x1 x3 σ σ' r h
    cases h
  | succ n ih =>
  intro x1 x3 σ σ' r h
  unfold g_Ab_withNumber_2 at h
  refine a_iload_n i_Ab_withNumber_2 rfl ?_
  refine a_aload_n i_Ab_withNumber_3 rfl ?_
  refine a_get (v := .int (σ.1.1 22 7)) i_Ab_withNumber_4 rfl rfl ?_
  by_cases c4 : x3 < (σ.1.1 22 7)
  · rw [if_pos c4] at h
    refine a_icf i_Ab_withNumber_7 (Int32.not_le.mpr c4) ?_
    refine a_aload_n i_Ab_withNumber_10 rfl ?_
    refine a_get (v := .ref 23) i_Ab_withNumber_11 rfl rfl ?_
    refine a_iload_n i_Ab_withNumber_14 rfl ?_
    obtain ⟨c8, h⟩ := gd_some h
    refine a_lal (n := 40) i_Ab_withNumber_15 rfl rfl (inb_in c8) ?_
    refine a_lload_n i_Ab_withNumber_16 rfl ?_
    refine a_lcmp i_Ab_withNumber_17 ?_
    by_cases c11 : (lg_cmp (σ.2.2 23 x3.toNatClampNeg) x1) = 0
    · rw [if_pos c11] at h
      refine a_iff i_Ab_withNumber_18 c11 ?_
      refine a_iload_n i_Ab_withNumber_21 rfl ?_
      exact am_ret_i ok_Ab_withNumber rfl rfl (am_lf_i h)
    · rw [if_neg c11] at h
      refine a_ift i_Ab_withNumber_18 c11 ?_
      refine a_iinc i_Ab_withNumber_23 rfl rfl ?_
      refine a_goto i_Ab_withNumber_26 ?_
      exact ih h
  · rw [if_neg c4] at h
    refine a_ict i_Ab_withNumber_7 (Int32.not_lt.mp c4) ?_
    refine a_iconst i_Ab_withNumber_29 ?_
    exact am_ret_i ok_Ab_withNumber rfl rfl (am_lf_i h)
def g_Ab_withNumber (x1 : Int64) (σ : am_S) : Option (Int32 × am_S) :=
  g_Ab_withNumber_2 4000 x1 (0) σ
set_option maxHeartbeats 4000000 in
theorem t_Ab_withNumber_0 {x1 : Int64} {σ σ' : am_S} {r : Int32} (h : g_Ab_withNumber x1 σ = some (r, σ')) : am_A S_c M_Ab_withNumber (0, [some (.ref 22), some (.long x1), none, none], [], σ) (am_r S_c (fun q τ => q = some (.int r) ∧ τ = σ')) := by
  unfold g_Ab_withNumber at h
  refine a_iconst i_Ab_withNumber_0 ?_
  refine a_istore_n i_Ab_withNumber_1 rfl ?_
  exact t_Ab_withNumber_2 4000 h
theorem t_Ab_withNumber {x1 : Int64} {σ σ' : am_S} {r : Int32} (h : g_Ab_withNumber x1 σ = some (r, σ')) : am_Mt S_c M_Ab_withNumber [.ref 22, .long x1] σ (fun q τ => q = some (.int r) ∧ τ = σ') :=
  am_M_of ok_Ab_withNumber (Nat.le_of_ble_eq_true rfl) (t_Ab_withNumber_0 h)
def g_Ab_isConstantForm_69 (y0 : Int32) (σ : am_S) : Option (Int32 × am_S) :=
  am_gd (z01 y0) <|
  some (y0, σ)
set_option maxHeartbeats 4000000 in
theorem t_Ab_isConstantForm_69 {y0 : Int32} {σ σ' : am_S} {r : Int32} (h : g_Ab_isConstantForm_69 y0 σ = some (r, σ')) : am_A S_c M_Ab_isConstantForm (69, [none, none], [.int y0], σ) (am_r S_c (fun q τ => q = some (.int r) ∧ τ = σ')) := by
  unfold g_Ab_isConstantForm_69 at h
  obtain ⟨c1, h⟩ := gd_some h
  exact am_ret_z ok_Ab_isConstantForm rfl rfl (z01_or c1) (am_lf_i h)
def g_Ab_isConstantForm_64 (σ : am_S) : Option (Int32 × am_S) :=
  g_Ab_isConstantForm_69 (1) σ
set_option maxHeartbeats 4000000 in
theorem t_Ab_isConstantForm_64 {σ σ' : am_S} {r : Int32} (h : g_Ab_isConstantForm_64 σ = some (r, σ')) : am_A S_c M_Ab_isConstantForm (64, [none, none], [], σ) (am_r S_c (fun q τ => q = some (.int r) ∧ τ = σ')) := by
  unfold g_Ab_isConstantForm_64 at h
  refine a_iconst i_Ab_isConstantForm_64 ?_
  refine a_goto i_Ab_isConstantForm_65 ?_
  exact t_Ab_isConstantForm_69 h
def g_Ab_isConstantForm (x0 : Int64) (σ : am_S) : Option (Int32 × am_S) :=
  if (lg_cmp x0 11) = 0 then
    g_Ab_isConstantForm_64 σ
  else
    if (lg_cmp x0 5) = 0 then
      g_Ab_isConstantForm_64 σ
    else
      if (lg_cmp x0 6) = 0 then
        g_Ab_isConstantForm_64 σ
      else
        if (lg_cmp x0 7) = 0 then
          g_Ab_isConstantForm_64 σ
        else
          if (lg_cmp x0 13) = 0 then
            g_Ab_isConstantForm_64 σ
          else
            if (lg_cmp x0 15) = 0 then
              g_Ab_isConstantForm_64 σ
            else
              if (lg_cmp x0 33) = 0 then
                g_Ab_isConstantForm_64 σ
              else
                if (lg_cmp x0 25) = 0 then
                  g_Ab_isConstantForm_64 σ
                else
                  g_Ab_isConstantForm_69 (0) σ
set_option maxHeartbeats 4000000 in
theorem t_Ab_isConstantForm_0 {x0 : Int64} {σ σ' : am_S} {r : Int32} (h : g_Ab_isConstantForm x0 σ = some (r, σ')) : am_A S_c M_Ab_isConstantForm (0, [some (.long x0), none], [], σ) (am_r S_c (fun q τ => q = some (.int r) ∧ τ = σ')) := by
  unfold g_Ab_isConstantForm at h
  refine a_lload_n i_Ab_isConstantForm_0 rfl ?_
  refine a_ldc2 i_Ab_isConstantForm_1 ?_
  refine a_lcmp i_Ab_isConstantForm_4 ?_
  by_cases c4 : (lg_cmp x0 11) = 0
  · rw [if_pos c4] at h
    refine a_ift i_Ab_isConstantForm_5 c4 ?_
    exact am_wk (t_Ab_isConstantForm_64 h) ⟨Or.inl rfl, Or.inl rfl, trivial⟩
  · rw [if_neg c4] at h
    refine a_iff i_Ab_isConstantForm_5 c4 ?_
    refine a_lload_n i_Ab_isConstantForm_8 rfl ?_
    refine a_ldc2 i_Ab_isConstantForm_9 ?_
    refine a_lcmp i_Ab_isConstantForm_12 ?_
    by_cases c8 : (lg_cmp x0 5) = 0
    · rw [if_pos c8] at h
      refine a_ift i_Ab_isConstantForm_13 c8 ?_
      exact am_wk (t_Ab_isConstantForm_64 h) ⟨Or.inl rfl, Or.inl rfl, trivial⟩
    · rw [if_neg c8] at h
      refine a_iff i_Ab_isConstantForm_13 c8 ?_
      refine a_lload_n i_Ab_isConstantForm_16 rfl ?_
      refine a_ldc2 i_Ab_isConstantForm_17 ?_
      refine a_lcmp i_Ab_isConstantForm_20 ?_
      by_cases c12 : (lg_cmp x0 6) = 0
      · rw [if_pos c12] at h
        refine a_ift i_Ab_isConstantForm_21 c12 ?_
        exact am_wk (t_Ab_isConstantForm_64 h) ⟨Or.inl rfl, Or.inl rfl, trivial⟩
      · rw [if_neg c12] at h
        refine a_iff i_Ab_isConstantForm_21 c12 ?_
        refine a_lload_n i_Ab_isConstantForm_24 rfl ?_
        refine a_ldc2 i_Ab_isConstantForm_25 ?_
        refine a_lcmp i_Ab_isConstantForm_28 ?_
        by_cases c16 : (lg_cmp x0 7) = 0
        · rw [if_pos c16] at h
          refine a_ift i_Ab_isConstantForm_29 c16 ?_
          exact am_wk (t_Ab_isConstantForm_64 h) ⟨Or.inl rfl, Or.inl rfl, trivial⟩
        · rw [if_neg c16] at h
          refine a_iff i_Ab_isConstantForm_29 c16 ?_
          refine a_lload_n i_Ab_isConstantForm_32 rfl ?_
          refine a_ldc2 i_Ab_isConstantForm_33 ?_
          refine a_lcmp i_Ab_isConstantForm_36 ?_
          by_cases c20 : (lg_cmp x0 13) = 0
          · rw [if_pos c20] at h
            refine a_ift i_Ab_isConstantForm_37 c20 ?_
            exact am_wk (t_Ab_isConstantForm_64 h) ⟨Or.inl rfl, Or.inl rfl, trivial⟩
          · rw [if_neg c20] at h
            refine a_iff i_Ab_isConstantForm_37 c20 ?_
            refine a_lload_n i_Ab_isConstantForm_40 rfl ?_
            refine a_ldc2 i_Ab_isConstantForm_41 ?_
            refine a_lcmp i_Ab_isConstantForm_44 ?_
            by_cases c24 : (lg_cmp x0 15) = 0
            · rw [if_pos c24] at h
              refine a_ift i_Ab_isConstantForm_45 c24 ?_
              exact am_wk (t_Ab_isConstantForm_64 h) ⟨Or.inl rfl, Or.inl rfl, trivial⟩
            · rw [if_neg c24] at h
              refine a_iff i_Ab_isConstantForm_45 c24 ?_
              refine a_lload_n i_Ab_isConstantForm_48 rfl ?_
              refine a_ldc2 i_Ab_isConstantForm_49 ?_
              refine a_lcmp i_Ab_isConstantForm_52 ?_
              by_cases c28 : (lg_cmp x0 33) = 0
              · rw [if_pos c28] at h
                refine a_ift i_Ab_isConstantForm_53 c28 ?_
                exact am_wk (t_Ab_isConstantForm_64 h) ⟨Or.inl rfl, Or.inl rfl, trivial⟩
              · rw [if_neg c28] at h
                refine a_iff i_Ab_isConstantForm_53 c28 ?_
                refine a_lload_n i_Ab_isConstantForm_56 rfl ?_
                refine a_ldc2 i_Ab_isConstantForm_57 ?_
                refine a_lcmp i_Ab_isConstantForm_60 ?_
                by_cases c32 : (lg_cmp x0 25) = 0
                · rw [if_pos c32] at h
                  refine a_iff i_Ab_isConstantForm_61 c32 ?_
                  exact am_wk (t_Ab_isConstantForm_64 h) ⟨Or.inl rfl, Or.inl rfl, trivial⟩
                · rw [if_neg c32] at h
                  refine a_ift i_Ab_isConstantForm_61 c32 ?_
                  refine a_iconst i_Ab_isConstantForm_68 ?_
                  exact am_wk (t_Ab_isConstantForm_69 h) ⟨Or.inl rfl, Or.inl rfl, trivial⟩
theorem t_Ab_isConstantForm {x0 : Int64} {σ σ' : am_S} {r : Int32} (h : g_Ab_isConstantForm x0 σ = some (r, σ')) : am_Mt S_c M_Ab_isConstantForm [.long x0] σ (fun q τ => q = some (.int r) ∧ τ = σ') :=
  am_M_of ok_Ab_isConstantForm (Nat.le_of_ble_eq_true rfl) (t_Ab_isConstantForm_0 h)
def g_Ab_isTextForm_37 (y0 : Int32) (σ : am_S) : Option (Int32 × am_S) :=
  am_gd (z01 y0) <|
  some (y0, σ)
set_option maxHeartbeats 4000000 in
theorem t_Ab_isTextForm_37 {y0 : Int32} {σ σ' : am_S} {r : Int32} (h : g_Ab_isTextForm_37 y0 σ = some (r, σ')) : am_A S_c M_Ab_isTextForm (37, [none, none], [.int y0], σ) (am_r S_c (fun q τ => q = some (.int r) ∧ τ = σ')) := by
  unfold g_Ab_isTextForm_37 at h
  obtain ⟨c1, h⟩ := gd_some h
  exact am_ret_z ok_Ab_isTextForm rfl rfl (z01_or c1) (am_lf_i h)
def g_Ab_isTextForm_32 (σ : am_S) : Option (Int32 × am_S) :=
  g_Ab_isTextForm_37 (1) σ
set_option maxHeartbeats 4000000 in
theorem t_Ab_isTextForm_32 {σ σ' : am_S} {r : Int32} (h : g_Ab_isTextForm_32 σ = some (r, σ')) : am_A S_c M_Ab_isTextForm (32, [none, none], [], σ) (am_r S_c (fun q τ => q = some (.int r) ∧ τ = σ')) := by
  unfold g_Ab_isTextForm_32 at h
  refine a_iconst i_Ab_isTextForm_32 ?_
  refine a_goto i_Ab_isTextForm_33 ?_
  exact t_Ab_isTextForm_37 h
def g_Ab_isTextForm (x0 : Int64) (σ : am_S) : Option (Int32 × am_S) :=
  if (lg_cmp x0 8) = 0 then
    g_Ab_isTextForm_32 σ
  else
    if (lg_cmp x0 14) = 0 then
      g_Ab_isTextForm_32 σ
    else
      if (lg_cmp x0 31) = 0 then
        g_Ab_isTextForm_32 σ
      else
        if (lg_cmp x0 37) = 0 then
          g_Ab_isTextForm_32 σ
        else
          g_Ab_isTextForm_37 (0) σ
set_option maxHeartbeats 4000000 in
theorem t_Ab_isTextForm_0 {x0 : Int64} {σ σ' : am_S} {r : Int32} (h : g_Ab_isTextForm x0 σ = some (r, σ')) : am_A S_c M_Ab_isTextForm (0, [some (.long x0), none], [], σ) (am_r S_c (fun q τ => q = some (.int r) ∧ τ = σ')) := by
  unfold g_Ab_isTextForm at h
  refine a_lload_n i_Ab_isTextForm_0 rfl ?_
  refine a_ldc2 i_Ab_isTextForm_1 ?_
  refine a_lcmp i_Ab_isTextForm_4 ?_
  by_cases c4 : (lg_cmp x0 8) = 0
  · rw [if_pos c4] at h
    refine a_ift i_Ab_isTextForm_5 c4 ?_
    exact am_wk (t_Ab_isTextForm_32 h) ⟨Or.inl rfl, Or.inl rfl, trivial⟩
  · rw [if_neg c4] at h
    refine a_iff i_Ab_isTextForm_5 c4 ?_
    refine a_lload_n i_Ab_isTextForm_8 rfl ?_
    refine a_ldc2 i_Ab_isTextForm_9 ?_
    refine a_lcmp i_Ab_isTextForm_12 ?_
    by_cases c8 : (lg_cmp x0 14) = 0
    · rw [if_pos c8] at h
      refine a_ift i_Ab_isTextForm_13 c8 ?_
      exact am_wk (t_Ab_isTextForm_32 h) ⟨Or.inl rfl, Or.inl rfl, trivial⟩
    · rw [if_neg c8] at h
      refine a_iff i_Ab_isTextForm_13 c8 ?_
      refine a_lload_n i_Ab_isTextForm_16 rfl ?_
      refine a_ldc2 i_Ab_isTextForm_17 ?_
      refine a_lcmp i_Ab_isTextForm_20 ?_
      by_cases c12 : (lg_cmp x0 31) = 0
      · rw [if_pos c12] at h
        refine a_ift i_Ab_isTextForm_21 c12 ?_
        exact am_wk (t_Ab_isTextForm_32 h) ⟨Or.inl rfl, Or.inl rfl, trivial⟩
      · rw [if_neg c12] at h
        refine a_iff i_Ab_isTextForm_21 c12 ?_
        refine a_lload_n i_Ab_isTextForm_24 rfl ?_
        refine a_ldc2 i_Ab_isTextForm_25 ?_
        refine a_lcmp i_Ab_isTextForm_28 ?_
        by_cases c16 : (lg_cmp x0 37) = 0
        · rw [if_pos c16] at h
          refine a_iff i_Ab_isTextForm_29 c16 ?_
          exact am_wk (t_Ab_isTextForm_32 h) ⟨Or.inl rfl, Or.inl rfl, trivial⟩
        · rw [if_neg c16] at h
          refine a_ift i_Ab_isTextForm_29 c16 ?_
          refine a_iconst i_Ab_isTextForm_36 ?_
          exact am_wk (t_Ab_isTextForm_37 h) ⟨Or.inl rfl, Or.inl rfl, trivial⟩
theorem t_Ab_isTextForm {x0 : Int64} {σ σ' : am_S} {r : Int32} (h : g_Ab_isTextForm x0 σ = some (r, σ')) : am_Mt S_c M_Ab_isTextForm [.long x0] σ (fun q τ => q = some (.int r) ∧ τ = σ') :=
  am_M_of ok_Ab_isTextForm (Nat.le_of_ble_eq_true rfl) (t_Ab_isTextForm_0 h)
def g_Ab_isForm_65 (y0 : Int32) (σ : am_S) : Option (Int32 × am_S) :=
  am_gd (z01 y0) <|
  some (y0, σ)
set_option maxHeartbeats 4000000 in
theorem t_Ab_isForm_65 {y0 : Int32} {σ σ' : am_S} {r : Int32} (h : g_Ab_isForm_65 y0 σ = some (r, σ')) : am_A S_c M_Ab_isForm (65, [none, none], [.int y0], σ) (am_r S_c (fun q τ => q = some (.int r) ∧ τ = σ')) := by
  unfold g_Ab_isForm_65 at h
  obtain ⟨c1, h⟩ := gd_some h
  exact am_ret_z ok_Ab_isForm rfl rfl (z01_or c1) (am_lf_i h)
def g_Ab_isForm_60 (σ : am_S) : Option (Int32 × am_S) :=
  g_Ab_isForm_65 (1) σ
set_option maxHeartbeats 4000000 in
theorem t_Ab_isForm_60 {σ σ' : am_S} {r : Int32} (h : g_Ab_isForm_60 σ = some (r, σ')) : am_A S_c M_Ab_isForm (60, [none, none], [], σ) (am_r S_c (fun q τ => q = some (.int r) ∧ τ = σ')) := by
  unfold g_Ab_isForm_60 at h
  refine a_iconst i_Ab_isForm_60 ?_
  refine a_goto i_Ab_isForm_61 ?_
  exact t_Ab_isForm_65 h
def g_Ab_isForm (x0 : Int64) (σ : am_S) : Option (Int32 × am_S) :=
  if (lg_cmp x0 1) = 0 then
    g_Ab_isForm_60 σ
  else
    am_bd (g_Ab_isConstantForm x0 σ) fun v6 σ6 =>
    if v6 = 0 then
      am_bd (g_Ab_isTextForm x0 σ6) fun v9 σ9 =>
      if v9 = 0 then
        if (lg_cmp x0 19) = 0 then
          g_Ab_isForm_60 σ9
        else
          if (lg_cmp x0 23) = 0 then
            g_Ab_isForm_60 σ9
          else
            if (lg_cmp x0 24) = 0 then
              g_Ab_isForm_60 σ9
            else
              if (lg_cmp x0 27) = 0 then
                g_Ab_isForm_60 σ9
              else
                if (lg_cmp x0 35) = 0 then
                  g_Ab_isForm_60 σ9
                else
                  g_Ab_isForm_65 (0) σ9
      else
        g_Ab_isForm_60 σ9
    else
      g_Ab_isForm_60 σ6
set_option maxHeartbeats 4000000 in
theorem t_Ab_isForm_0 {x0 : Int64} {σ σ' : am_S} {r : Int32} (h : g_Ab_isForm x0 σ = some (r, σ')) : am_A S_c M_Ab_isForm (0, [some (.long x0), none], [], σ) (am_r S_c (fun q τ => q = some (.int r) ∧ τ = σ')) := by
  unfold g_Ab_isForm at h
  refine a_lload_n i_Ab_isForm_0 rfl ?_
  refine a_lconst i_Ab_isForm_1 ?_
  refine a_lcmp i_Ab_isForm_2 ?_
  by_cases c4 : (lg_cmp x0 1) = 0
  · rw [if_pos c4] at h
    refine a_ift i_Ab_isForm_3 c4 ?_
    exact am_wk (t_Ab_isForm_60 h) ⟨Or.inl rfl, Or.inl rfl, trivial⟩
  · rw [if_neg c4] at h
    refine a_iff i_Ab_isForm_3 c4 ?_
    refine a_lload_n i_Ab_isForm_6 rfl ?_
    obtain ⟨v6, σ6, e6, h⟩ := am_bd_some h
    refine am_csd (rest := []) [.long x0] c_Ab_isForm_7 rfl (Nat.le_of_ble_eq_true rfl) (t_Ab_isConstantForm e6) ?_
    by_cases c7 : v6 = 0
    · rw [if_pos c7] at h
      refine a_iff i_Ab_isForm_10 c7 ?_
      refine a_lload_n i_Ab_isForm_13 rfl ?_
      obtain ⟨v9, σ9, e9, h⟩ := am_bd_some h
      refine am_csd (rest := []) [.long x0] c_Ab_isForm_14 rfl (Nat.le_of_ble_eq_true rfl) (t_Ab_isTextForm e9) ?_
      by_cases c10 : v9 = 0
      · rw [if_pos c10] at h
        refine a_iff i_Ab_isForm_17 c10 ?_
        refine a_lload_n i_Ab_isForm_20 rfl ?_
        refine a_ldc2 i_Ab_isForm_21 ?_
        refine a_lcmp i_Ab_isForm_24 ?_
        by_cases c14 : (lg_cmp x0 19) = 0
        · rw [if_pos c14] at h
          refine a_ift i_Ab_isForm_25 c14 ?_
          exact am_wk (t_Ab_isForm_60 h) ⟨Or.inl rfl, Or.inl rfl, trivial⟩
        · rw [if_neg c14] at h
          refine a_iff i_Ab_isForm_25 c14 ?_
          refine a_lload_n i_Ab_isForm_28 rfl ?_
          refine a_ldc2 i_Ab_isForm_29 ?_
          refine a_lcmp i_Ab_isForm_32 ?_
          by_cases c18 : (lg_cmp x0 23) = 0
          · rw [if_pos c18] at h
            refine a_ift i_Ab_isForm_33 c18 ?_
            exact am_wk (t_Ab_isForm_60 h) ⟨Or.inl rfl, Or.inl rfl, trivial⟩
          · rw [if_neg c18] at h
            refine a_iff i_Ab_isForm_33 c18 ?_
            refine a_lload_n i_Ab_isForm_36 rfl ?_
            refine a_ldc2 i_Ab_isForm_37 ?_
            refine a_lcmp i_Ab_isForm_40 ?_
            by_cases c22 : (lg_cmp x0 24) = 0
            · rw [if_pos c22] at h
              refine a_ift i_Ab_isForm_41 c22 ?_
              exact am_wk (t_Ab_isForm_60 h) ⟨Or.inl rfl, Or.inl rfl, trivial⟩
            · rw [if_neg c22] at h
              refine a_iff i_Ab_isForm_41 c22 ?_
              refine a_lload_n i_Ab_isForm_44 rfl ?_
              refine a_ldc2 i_Ab_isForm_45 ?_
              refine a_lcmp i_Ab_isForm_48 ?_
              by_cases c26 : (lg_cmp x0 27) = 0
              · rw [if_pos c26] at h
                refine a_ift i_Ab_isForm_49 c26 ?_
                exact am_wk (t_Ab_isForm_60 h) ⟨Or.inl rfl, Or.inl rfl, trivial⟩
              · rw [if_neg c26] at h
                refine a_iff i_Ab_isForm_49 c26 ?_
                refine a_lload_n i_Ab_isForm_52 rfl ?_
                refine a_ldc2 i_Ab_isForm_53 ?_
                refine a_lcmp i_Ab_isForm_56 ?_
                by_cases c30 : (lg_cmp x0 35) = 0
                · rw [if_pos c30] at h
                  refine a_iff i_Ab_isForm_57 c30 ?_
                  exact am_wk (t_Ab_isForm_60 h) ⟨Or.inl rfl, Or.inl rfl, trivial⟩
                · rw [if_neg c30] at h
                  refine a_ift i_Ab_isForm_57 c30 ?_
                  refine a_iconst i_Ab_isForm_64 ?_
                  exact am_wk (t_Ab_isForm_65 h) ⟨Or.inl rfl, Or.inl rfl, trivial⟩
      · rw [if_neg c10] at h
        refine a_ift i_Ab_isForm_17 c10 ?_
        exact am_wk (t_Ab_isForm_60 h) ⟨Or.inl rfl, Or.inl rfl, trivial⟩
    · rw [if_neg c7] at h
      refine a_ift i_Ab_isForm_10 c7 ?_
      exact am_wk (t_Ab_isForm_60 h) ⟨Or.inl rfl, Or.inl rfl, trivial⟩
theorem t_Ab_isForm {x0 : Int64} {σ σ' : am_S} {r : Int32} (h : g_Ab_isForm x0 σ = some (r, σ')) : am_Mt S_c M_Ab_isForm [.long x0] σ (fun q τ => q = some (.int r) ∧ τ = σ') :=
  am_M_of ok_Ab_isForm (Nat.le_of_ble_eq_true rfl) (t_Ab_isForm_0 h)
def g_Ab_readOne_31_32 (σ : am_S) : Option (Int32 × am_S) :=
  some (0, σ)
set_option maxHeartbeats 4000000 in
theorem t_Ab_readOne_31_32 {σ σ' : am_S} {r : Int32} (h : g_Ab_readOne_31_32 σ = some (r, σ')) : am_A S_c M_Ab_readOne (32, [none, none, none, none, none, none, none, none, none, none], [], σ) (am_r S_c (fun q τ => q = some (.int r) ∧ τ = σ')) := by
  unfold g_Ab_readOne_31_32 at h
  refine a_iconst i_Ab_readOne_32 ?_
  exact am_ret_z ok_Ab_readOne rfl rfl (Or.inl rfl) (am_lf_i h)
def g_Ab_readOne_31_127 (σ : am_S) : Option (Int32 × am_S) :=
  some (0, σ)
set_option maxHeartbeats 4000000 in
theorem t_Ab_readOne_31_127 {σ σ' : am_S} {r : Int32} (h : g_Ab_readOne_31_127 σ = some (r, σ')) : am_A S_c M_Ab_readOne (127, [none, none, none, none, none, none, none, none, none, none], [], σ) (am_r S_c (fun q τ => q = some (.int r) ∧ τ = σ')) := by
  unfold g_Ab_readOne_31_127 at h
  refine a_iconst i_Ab_readOne_127 ?_
  exact am_ret_z ok_Ab_readOne rfl rfl (Or.inl rfl) (am_lf_i h)
def g_Ab_readOne_31_183 (go : Int32 → am_S → Option (Int32 × am_S)) (x4 : Int32) (y0 : Int64) (y1 : Int32) (σ : am_S) : Option (Int32 × am_S) :=
  am_gd (inb y1 480) <|
  go (x4 + 1) (am_al σ 29 y1.toNatClampNeg y0)
set_option maxHeartbeats 4000000 in
theorem t_Ab_readOne_31_183 {x4 : Int32} {y0 : Int64} {y1 : Int32} {σ σ' : am_S} {r : Int32} {go : Int32 → am_S → Option (Int32 × am_S)} (hgo : ∀ {x4 : Int32} {σ σ' : am_S} {r : Int32}, go x4 σ = some (r, σ') → am_A S_c M_Ab_readOne (57, [some (.ref 22), some (.ref 31), none, none, some (.int x4), none, none, none, none, none], [], σ) (am_r S_c (fun q τ => q = some (.int r) ∧ τ = σ'))) (h : g_Ab_readOne_31_183 go x4 y0 y1 σ = some (r, σ')) : am_A S_c M_Ab_readOne (183, [some (.ref 22), some (.ref 31), none, none, some (.int x4), none, none, none, none, none], [.long y0, .int y1, .ref 29], σ) (am_r S_c (fun q τ => q = some (.int r) ∧ τ = σ')) := by
  unfold g_Ab_readOne_31_183 at h
  obtain ⟨c1, h⟩ := gd_some h
  refine a_las (n := 480) i_Ab_readOne_183 rfl rfl (inb_in c1) ?_
  refine a_iinc i_Ab_readOne_184 rfl rfl ?_
  refine a_goto i_Ab_readOne_187 ?_
  exact hgo h
def g_Ab_readOne_31_112 (go : Int32 → am_S → Option (Int32 × am_S)) (x4 : Int32) (x5 : Int64) (x7 : Int64) (σ : am_S) : Option (Int32 × am_S) :=
  if x4 = 12 then
    g_Ab_readOne_31_127 σ
  else
    am_bd (g_Ab_isForm x7 σ) fun v5 σ5 =>
    if v5 = 0 then
      g_Ab_readOne_31_127 σ5
    else
      am_gd (inb (((σ5.1.1 22 7) * 12) + x4) 480) <|
      am_gd (inb (((σ5.1.1 22 7) * 12) + x4) 480) <|
      if (lg_cmp x7 33) = 0 then
        am_bd (g_Cu_sleb 31 (am_ai (am_al σ5 27 (((σ5.1.1 22 7) * 12) + x4).toNatClampNeg x5) 28 (((σ5.1.1 22 7) * 12) + x4).toNatClampNeg x7.toInt32)) fun v33 σ33 =>
        g_Ab_readOne_31_183 go x4 v33 (((σ5.1.1 22 7) * 12) + x4) σ33
      else
        g_Ab_readOne_31_183 go x4 (0) (((σ5.1.1 22 7) * 12) + x4) (am_ai (am_al σ5 27 (((σ5.1.1 22 7) * 12) + x4).toNatClampNeg x5) 28 (((σ5.1.1 22 7) * 12) + x4).toNatClampNeg x7.toInt32)
set_option maxHeartbeats 4000000 in
theorem t_Ab_readOne_31_112 {x4 : Int32} {x5 : Int64} {x7 : Int64} {σ σ' : am_S} {r : Int32} {go : Int32 → am_S → Option (Int32 × am_S)} (hgo : ∀ {x4 : Int32} {σ σ' : am_S} {r : Int32}, go x4 σ = some (r, σ') → am_A S_c M_Ab_readOne (57, [some (.ref 22), some (.ref 31), none, none, some (.int x4), none, none, none, none, none], [], σ) (am_r S_c (fun q τ => q = some (.int r) ∧ τ = σ'))) (h : g_Ab_readOne_31_112 go x4 x5 x7 σ = some (r, σ')) : am_A S_c M_Ab_readOne (112, [some (.ref 22), some (.ref 31), none, none, some (.int x4), some (.long x5), none, some (.long x7), none, none], [], σ) (am_r S_c (fun q τ => q = some (.int r) ∧ τ = σ')) := by
  unfold g_Ab_readOne_31_112 at h
  refine a_iload i_Ab_readOne_112 rfl ?_
  refine a_bipush i_Ab_readOne_114 ?_
  by_cases c3 : x4 = 12
  · rw [if_pos c3] at h
    refine a_ict i_Ab_readOne_116 c3 ?_
    exact am_wk (t_Ab_readOne_31_127 h) ⟨Or.inl rfl, Or.inl rfl, Or.inl rfl, Or.inl rfl, Or.inl rfl, Or.inl rfl, Or.inl rfl, Or.inl rfl, Or.inl rfl, Or.inl rfl, trivial⟩
  · rw [if_neg c3] at h
    refine a_icf i_Ab_readOne_116 c3 ?_
    refine a_lload i_Ab_readOne_119 rfl ?_
    obtain ⟨v5, σ5, e5, h⟩ := am_bd_some h
    refine am_csd (rest := []) [.long x7] c_Ab_readOne_121 rfl (Nat.le_of_ble_eq_true rfl) (t_Ab_isForm e5) ?_
    by_cases c6 : v5 = 0
    · rw [if_pos c6] at h
      refine a_iff i_Ab_readOne_124 c6 ?_
      exact am_wk (t_Ab_readOne_31_127 h) ⟨Or.inl rfl, Or.inl rfl, Or.inl rfl, Or.inl rfl, Or.inl rfl, Or.inl rfl, Or.inl rfl, Or.inl rfl, Or.inl rfl, Or.inl rfl, trivial⟩
    · rw [if_neg c6] at h
      refine a_ift i_Ab_readOne_124 c6 ?_
      refine a_aload_n i_Ab_readOne_129 rfl ?_
      refine a_get (v := .int (σ5.1.1 22 7)) i_Ab_readOne_130 rfl rfl ?_
      refine a_bipush i_Ab_readOne_133 ?_
      refine a_imul i_Ab_readOne_135 ?_
      refine a_iload i_Ab_readOne_136 rfl ?_
      refine a_iadd i_Ab_readOne_138 ?_
      refine a_istore i_Ab_readOne_139 rfl ?_
      refine a_aload_n i_Ab_readOne_141 rfl ?_
      refine a_get (v := .ref 27) i_Ab_readOne_142 rfl rfl ?_
      refine a_iload i_Ab_readOne_145 rfl ?_
      refine a_lload i_Ab_readOne_147 rfl ?_
      obtain ⟨c18, h⟩ := gd_some h
      refine a_las (n := 480) i_Ab_readOne_149 rfl rfl (inb_in c18) ?_
      refine a_aload_n i_Ab_readOne_150 rfl ?_
      refine a_get (v := .ref 28) i_Ab_readOne_151 rfl rfl ?_
      refine a_iload i_Ab_readOne_154 rfl ?_
      refine a_lload i_Ab_readOne_156 rfl ?_
      refine a_l2i i_Ab_readOne_158 ?_
      obtain ⟨c24, h⟩ := gd_some h
      refine a_ias (n := 480) i_Ab_readOne_159 rfl rfl (inb_in c24) ?_
      refine a_aload_n i_Ab_readOne_160 rfl ?_
      refine a_get (v := .ref 29) i_Ab_readOne_161 rfl rfl ?_
      refine a_iload i_Ab_readOne_164 rfl ?_
      refine a_lload i_Ab_readOne_166 rfl ?_
      refine a_ldc2 i_Ab_readOne_168 ?_
      refine a_lcmp i_Ab_readOne_171 ?_
      by_cases c31 : (lg_cmp x7 33) = 0
      · rw [if_pos c31] at h
        refine a_iff i_Ab_readOne_172 c31 ?_
        refine a_aload_n i_Ab_readOne_175 rfl ?_
        obtain ⟨v33, σ33, e33, h⟩ := am_bd_some h
        refine am_cvd (rest := [.int (((σ5.1.1 22 7) * 12) + x4), .ref 29]) [] c_Ab_readOne_176 ⟨by decide, _, rfl⟩ rfl (Nat.le_of_ble_eq_true rfl) (t_Cu_sleb cu_31 e33) ?_
        refine a_goto i_Ab_readOne_179 ?_
        exact am_wk (t_Ab_readOne_31_183 hgo h) ⟨Or.inr rfl, Or.inr rfl, Or.inl rfl, Or.inl rfl, Or.inr rfl, Or.inl rfl, Or.inl rfl, Or.inl rfl, Or.inl rfl, Or.inl rfl, trivial⟩
      · rw [if_neg c31] at h
        refine a_ift i_Ab_readOne_172 c31 ?_
        refine a_lconst i_Ab_readOne_182 ?_
        exact am_wk (t_Ab_readOne_31_183 hgo h) ⟨Or.inr rfl, Or.inr rfl, Or.inl rfl, Or.inl rfl, Or.inr rfl, Or.inl rfl, Or.inl rfl, Or.inl rfl, Or.inl rfl, Or.inl rfl, trivial⟩
def g_Ab_readOne_31_57 : Nat → Int32 → am_S → Option (Int32 × am_S)
  | 0, _, _ => none
  | n + 1, x4, σ =>
  if 12 < x4 then
    some (0, σ)
  else
    am_bd (g_Cu_uleb 31 σ) fun v5 σ5 =>
    am_bd (g_Cu_uleb 31 σ5) fun v8 σ8 =>
    if (σ8.1.1 31 3) = 0 then
      if (lg_cmp v5 0) = 0 then
        if (lg_cmp v8 0) = 0 then
          am_gd (inb (σ8.1.1 22 7) 40) <|
          some (1, am_ai σ8 26 (σ8.1.1 22 7).toNatClampNeg x4)
        else
          g_Ab_readOne_31_112 (g_Ab_readOne_31_57 n) x4 v5 v8 σ8
      else
        g_Ab_readOne_31_112 (g_Ab_readOne_31_57 n) x4 v5 v8 σ8
    else
      some (0, σ8)
set_option maxHeartbeats 4000000 in
theorem t_Ab_readOne_31_57 : ∀ (n : Nat) {x4 : Int32} {σ σ' : am_S} {r : Int32} (h : g_Ab_readOne_31_57 n x4 σ = some (r, σ')), am_A S_c M_Ab_readOne (57, [some (.ref 22), some (.ref 31), none, none, some (.int x4), none, none, none, none, none], [], σ) (am_r S_c (fun q τ => q = some (.int r) ∧ τ = σ')) := by
  intro n
  induction n with
  | zero =>
    intro x4 σ σ' r h
    cases h
  | succ n ih =>
  intro x4 σ σ' r h
  unfold g_Ab_readOne_31_57 at h
  refine a_iload i_Ab_readOne_57 rfl ?_
  refine a_bipush i_Ab_readOne_59 ?_
  by_cases c3 : 12 < x4
  · rw [if_pos c3] at h
    refine a_ict i_Ab_readOne_61 c3 ?_
    refine a_iconst i_Ab_readOne_190 ?_
    exact am_ret_z ok_Ab_readOne rfl rfl (Or.inl rfl) (am_lf_i h)
  · rw [if_neg c3] at h
    refine a_icf i_Ab_readOne_61 c3 ?_
    refine a_aload_n i_Ab_readOne_64 rfl ?_
    obtain ⟨v5, σ5, e5, h⟩ := am_bd_some h
    refine am_cvd (rest := []) [] c_Ab_readOne_65 ⟨by decide, _, rfl⟩ rfl (Nat.le_of_ble_eq_true rfl) (t_Cu_uleb cu_31 e5) ?_
    refine a_lstore i_Ab_readOne_68 rfl ?_
    refine a_aload_n i_Ab_readOne_70 rfl ?_
    obtain ⟨v8, σ8, e8, h⟩ := am_bd_some h
    refine am_cvd (rest := []) [] c_Ab_readOne_71 ⟨by decide, _, rfl⟩ rfl (Nat.le_of_ble_eq_true rfl) (t_Cu_uleb cu_31 e8) ?_
    refine a_lstore i_Ab_readOne_74 rfl ?_
    refine a_aload_n i_Ab_readOne_76 rfl ?_
    refine a_get (v := .int (σ8.1.1 31 3)) i_Ab_readOne_77 rfl rfl ?_
    by_cases c12 : (σ8.1.1 31 3) = 0
    · rw [if_pos c12] at h
      refine a_ift i_Ab_readOne_80 c12 ?_
      refine a_lload i_Ab_readOne_85 rfl ?_
      refine a_lconst i_Ab_readOne_87 ?_
      refine a_lcmp i_Ab_readOne_88 ?_
      by_cases c16 : (lg_cmp v5 0) = 0
      · rw [if_pos c16] at h
        refine a_iff i_Ab_readOne_89 c16 ?_
        refine a_lload i_Ab_readOne_92 rfl ?_
        refine a_lconst i_Ab_readOne_94 ?_
        refine a_lcmp i_Ab_readOne_95 ?_
        by_cases c20 : (lg_cmp v8 0) = 0
        · rw [if_pos c20] at h
          refine a_iff i_Ab_readOne_96 c20 ?_
          refine a_aload_n i_Ab_readOne_99 rfl ?_
          refine a_get (v := .ref 26) i_Ab_readOne_100 rfl rfl ?_
          refine a_aload_n i_Ab_readOne_103 rfl ?_
          refine a_get (v := .int (σ8.1.1 22 7)) i_Ab_readOne_104 rfl rfl ?_
          refine a_iload i_Ab_readOne_107 rfl ?_
          obtain ⟨c26, h⟩ := gd_some h
          refine a_ias (n := 40) i_Ab_readOne_109 rfl rfl (inb_in c26) ?_
          refine a_iconst i_Ab_readOne_110 ?_
          exact am_ret_z ok_Ab_readOne rfl rfl (Or.inr rfl) (am_lf_i h)
        · rw [if_neg c20] at h
          refine a_ift i_Ab_readOne_96 c20 ?_
          exact t_Ab_readOne_31_112 (fun h => ih h) h
      · rw [if_neg c16] at h
        refine a_ift i_Ab_readOne_89 c16 ?_
        exact t_Ab_readOne_31_112 (fun h => ih h) h
    · rw [if_neg c12] at h
      refine a_iff i_Ab_readOne_80 c12 ?_
      refine a_iconst i_Ab_readOne_83 ?_
      exact am_ret_z ok_Ab_readOne rfl rfl (Or.inl rfl) (am_lf_i h)
def g_Ab_readOne_31_53 (y0 : Int32) (y1 : Int32) (σ : am_S) : Option (Int32 × am_S) :=
  am_gd (inb y1 40) <|
  g_Ab_readOne_31_57 4000 (0) (am_ai σ 25 y1.toNatClampNeg (vp_nar .boolean y0))
set_option maxHeartbeats 4000000 in
theorem t_Ab_readOne_31_53 {y0 : Int32} {y1 : Int32} {σ σ' : am_S} {r : Int32} (h : g_Ab_readOne_31_53 y0 y1 σ = some (r, σ')) : am_A S_c M_Ab_readOne (53, [some (.ref 22), some (.ref 31), none, none, none, none, none, none, none, none], [.int y0, .int y1, .ref 25], σ) (am_r S_c (fun q τ => q = some (.int r) ∧ τ = σ')) := by
  unfold g_Ab_readOne_31_53 at h
  obtain ⟨c1, h⟩ := gd_some h
  refine a_bas (n := 40) i_Ab_readOne_53 rfl rfl (inb_in c1) ?_
  refine a_iconst i_Ab_readOne_54 ?_
  refine a_istore i_Ab_readOne_55 rfl ?_
  exact t_Ab_readOne_31_57 4000 h
def g_Ab_readOne_31 (σ : am_S) : Option (Int32 × am_S) :=
  am_bd (g_Cu_uleb 31 σ) fun v6 σ6 =>
  am_gd (inb (σ.1.1 22 7) 40) <|
  am_bd (g_Cu_number 31 (1) (am_al σ6 24 (σ.1.1 22 7).toNatClampNeg v6)) fun v10 σ10 =>
  if (σ10.1.1 31 3) = 0 then
    if 0 < (lg_cmp v10 1) then
      g_Ab_readOne_31_32 σ10
    else
      if (lg_cmp v10 1) = 0 then
        g_Ab_readOne_31_53 (1) (σ10.1.1 22 7) σ10
      else
        g_Ab_readOne_31_53 (0) (σ10.1.1 22 7) σ10
  else
    g_Ab_readOne_31_32 σ10
set_option maxHeartbeats 4000000 in
theorem t_Ab_readOne_31_0 {σ σ' : am_S} {r : Int32} (h : g_Ab_readOne_31 σ = some (r, σ')) : am_A S_c M_Ab_readOne (0, [some (.ref 22), some (.ref 31), none, none, none, none, none, none, none, none], [], σ) (am_r S_c (fun q τ => q = some (.int r) ∧ τ = σ')) := by
  unfold g_Ab_readOne_31 at h
  refine a_aload_n i_Ab_readOne_0 rfl ?_
  refine a_get (v := .ref 24) i_Ab_readOne_1 rfl rfl ?_
  refine a_aload_n i_Ab_readOne_4 rfl ?_
  refine a_get (v := .int (σ.1.1 22 7)) i_Ab_readOne_5 rfl rfl ?_
  refine a_aload_n i_Ab_readOne_8 rfl ?_
  obtain ⟨v6, σ6, e6, h⟩ := am_bd_some h
  refine am_cvd (rest := [.int (σ.1.1 22 7), .ref 24]) [] c_Ab_readOne_9 ⟨by decide, _, rfl⟩ rfl (Nat.le_of_ble_eq_true rfl) (t_Cu_uleb cu_31 e6) ?_
  obtain ⟨c7, h⟩ := gd_some h
  refine a_las (n := 40) i_Ab_readOne_12 rfl rfl (inb_in c7) ?_
  refine a_aload_n i_Ab_readOne_13 rfl ?_
  refine a_iconst i_Ab_readOne_14 ?_
  obtain ⟨v10, σ10, e10, h⟩ := am_bd_some h
  refine am_cvd (rest := []) [.int 1] c_Ab_readOne_15 ⟨by decide, _, rfl⟩ rfl (Nat.le_of_ble_eq_true rfl) (t_Cu_number cu_31 e10) ?_
  refine a_lstore_n i_Ab_readOne_18 rfl ?_
  refine a_aload_n i_Ab_readOne_19 rfl ?_
  refine a_get (v := .int (σ10.1.1 31 3)) i_Ab_readOne_20 rfl rfl ?_
  by_cases c14 : (σ10.1.1 31 3) = 0
  · rw [if_pos c14] at h
    refine a_iff i_Ab_readOne_23 c14 ?_
    refine a_lload_n i_Ab_readOne_26 rfl ?_
    refine a_lconst i_Ab_readOne_27 ?_
    refine a_lcmp i_Ab_readOne_28 ?_
    by_cases c18 : 0 < (lg_cmp v10 1)
    · rw [if_pos c18] at h
      refine a_iff i_Ab_readOne_29 (Int32.not_le.mpr c18) ?_
      exact am_wk (t_Ab_readOne_31_32 h) ⟨Or.inl rfl, Or.inl rfl, Or.inl rfl, Or.inl rfl, Or.inl rfl, Or.inl rfl, Or.inl rfl, Or.inl rfl, Or.inl rfl, Or.inl rfl, trivial⟩
    · rw [if_neg c18] at h
      refine a_ift i_Ab_readOne_29 (Int32.not_lt.mp c18) ?_
      refine a_aload_n i_Ab_readOne_34 rfl ?_
      refine a_get (v := .ref 25) i_Ab_readOne_35 rfl rfl ?_
      refine a_aload_n i_Ab_readOne_38 rfl ?_
      refine a_get (v := .int (σ10.1.1 22 7)) i_Ab_readOne_39 rfl rfl ?_
      refine a_lload_n i_Ab_readOne_42 rfl ?_
      refine a_lconst i_Ab_readOne_43 ?_
      refine a_lcmp i_Ab_readOne_44 ?_
      by_cases c26 : (lg_cmp v10 1) = 0
      · rw [if_pos c26] at h
        refine a_iff i_Ab_readOne_45 c26 ?_
        refine a_iconst i_Ab_readOne_48 ?_
        refine a_goto i_Ab_readOne_49 ?_
        exact am_wk (t_Ab_readOne_31_53 h) ⟨Or.inr rfl, Or.inr rfl, Or.inl rfl, Or.inl rfl, Or.inl rfl, Or.inl rfl, Or.inl rfl, Or.inl rfl, Or.inl rfl, Or.inl rfl, trivial⟩
      · rw [if_neg c26] at h
        refine a_ift i_Ab_readOne_45 c26 ?_
        refine a_iconst i_Ab_readOne_52 ?_
        exact am_wk (t_Ab_readOne_31_53 h) ⟨Or.inr rfl, Or.inr rfl, Or.inl rfl, Or.inl rfl, Or.inl rfl, Or.inl rfl, Or.inl rfl, Or.inl rfl, Or.inl rfl, Or.inl rfl, trivial⟩
  · rw [if_neg c14] at h
    refine a_ift i_Ab_readOne_23 c14 ?_
    exact am_wk (t_Ab_readOne_31_32 h) ⟨Or.inl rfl, Or.inl rfl, Or.inl rfl, Or.inl rfl, Or.inl rfl, Or.inl rfl, Or.inl rfl, Or.inl rfl, Or.inl rfl, Or.inl rfl, trivial⟩
theorem t_Ab_readOne_31 {σ σ' : am_S} {r : Int32} (h : g_Ab_readOne_31 σ = some (r, σ')) : am_Mt S_c M_Ab_readOne [.ref 22, .ref 31] σ (fun q τ => q = some (.int r) ∧ τ = σ') :=
  am_M_of ok_Ab_readOne (Nat.le_of_ble_eq_true rfl) (t_Ab_readOne_31_0 h)
def g_Ab_read_31_53 (σ : am_S) : Option (Int32 × am_S) :=
  some (0, σ)
set_option maxHeartbeats 4000000 in
theorem t_Ab_read_31_53 {σ σ' : am_S} {r : Int32} (h : g_Ab_read_31_53 σ = some (r, σ')) : am_A S_c M_Ab_read (53, [none, none, none, none, none], [], σ) (am_r S_c (fun q τ => q = some (.int r) ∧ τ = σ')) := by
  unfold g_Ab_read_31_53 at h
  refine a_iconst i_Ab_read_53 ?_
  exact am_ret_z ok_Ab_read rfl rfl (Or.inl rfl) (am_lf_i h)
def g_Ab_read_31_7 : Nat → Int32 → am_S → Option (Int32 × am_S)
  | 0, _, _ => none
  | n + 1, x2, σ =>
  if 40 < x2 then
    some (0, σ)
  else
    am_bd (g_Cu_uleb 31 σ) fun v5 σ5 =>
    if (σ5.1.1 31 3) = 0 then
      if (lg_cmp v5 0) = 0 then
        some (1, σ5)
      else
        if (σ5.1.1 22 7) = 40 then
          g_Ab_read_31_53 σ5
        else
          am_bd (g_Ab_withNumber v5 σ5) fun v20 σ20 =>
          if v20 = (-1) then
            am_gd (inb (σ20.1.1 22 7) 40) <|
            am_bd (g_Ab_readOne_31 (am_al σ20 23 (σ20.1.1 22 7).toNatClampNeg v5)) fun v31 σ31 =>
            if v31 = 0 then
              some (0, σ31)
            else
              g_Ab_read_31_7 n (x2 + 1) (am_fi σ31 22 7 ((σ31.1.1 22 7) + 1))
          else
            g_Ab_read_31_53 σ20
    else
      some (0, σ5)
set_option maxHeartbeats 4000000 in
theorem t_Ab_read_31_7 : ∀ (n : Nat) {x2 : Int32} {σ σ' : am_S} {r : Int32} (h : g_Ab_read_31_7 n x2 σ = some (r, σ')), am_A S_c M_Ab_read (7, [some (.ref 22), some (.ref 31), some (.int x2), none, none], [], σ) (am_r S_c (fun q τ => q = some (.int r) ∧ τ = σ')) := by
  intro n
  induction n with
  | zero =>
    intro x2 σ σ' r h
    cases h
  | succ n ih =>
  intro x2 σ σ' r h
  unfold g_Ab_read_31_7 at h
  refine a_iload_n i_Ab_read_7 rfl ?_
  refine a_bipush i_Ab_read_8 ?_
  by_cases c3 : 40 < x2
  · rw [if_pos c3] at h
    refine a_ict i_Ab_read_10 c3 ?_
    refine a_iconst i_Ab_read_91 ?_
    exact am_ret_z ok_Ab_read rfl rfl (Or.inl rfl) (am_lf_i h)
  · rw [if_neg c3] at h
    refine a_icf i_Ab_read_10 c3 ?_
    refine a_aload_n i_Ab_read_13 rfl ?_
    obtain ⟨v5, σ5, e5, h⟩ := am_bd_some h
    refine am_cvd (rest := []) [] c_Ab_read_14 ⟨by decide, _, rfl⟩ rfl (Nat.le_of_ble_eq_true rfl) (t_Cu_uleb cu_31 e5) ?_
    refine a_lstore_n i_Ab_read_17 rfl ?_
    refine a_aload_n i_Ab_read_18 rfl ?_
    refine a_get (v := .int (σ5.1.1 31 3)) i_Ab_read_19 rfl rfl ?_
    by_cases c9 : (σ5.1.1 31 3) = 0
    · rw [if_pos c9] at h
      refine a_ift i_Ab_read_22 c9 ?_
      refine a_lload_n i_Ab_read_27 rfl ?_
      refine a_lconst i_Ab_read_28 ?_
      refine a_lcmp i_Ab_read_29 ?_
      by_cases c13 : (lg_cmp v5 0) = 0
      · rw [if_pos c13] at h
        refine a_iff i_Ab_read_30 c13 ?_
        refine a_iconst i_Ab_read_33 ?_
        exact am_ret_z ok_Ab_read rfl rfl (Or.inr rfl) (am_lf_i h)
      · rw [if_neg c13] at h
        refine a_ift i_Ab_read_30 c13 ?_
        refine a_aload_n i_Ab_read_35 rfl ?_
        refine a_get (v := .int (σ5.1.1 22 7)) i_Ab_read_36 rfl rfl ?_
        refine a_bipush i_Ab_read_39 ?_
        by_cases c17 : (σ5.1.1 22 7) = 40
        · rw [if_pos c17] at h
          refine a_ict i_Ab_read_41 c17 ?_
          exact am_wk (t_Ab_read_31_53 h) ⟨Or.inl rfl, Or.inl rfl, Or.inl rfl, Or.inl rfl, Or.inl rfl, trivial⟩
        · rw [if_neg c17] at h
          refine a_icf i_Ab_read_41 c17 ?_
          refine a_aload_n i_Ab_read_44 rfl ?_
          refine a_lload_n i_Ab_read_45 rfl ?_
          obtain ⟨v20, σ20, e20, h⟩ := am_bd_some h
          refine am_cvd (rest := []) [.long v5] c_Ab_read_46 ⟨by decide, _, rfl⟩ rfl (Nat.le_of_ble_eq_true rfl) (t_Ab_withNumber e20) ?_
          refine a_iconst i_Ab_read_49 ?_
          by_cases c22 : v20 = (-1)
          · rw [if_pos c22] at h
            refine a_ict i_Ab_read_50 c22 ?_
            refine a_aload_n i_Ab_read_55 rfl ?_
            refine a_get (v := .ref 23) i_Ab_read_56 rfl rfl ?_
            refine a_aload_n i_Ab_read_59 rfl ?_
            refine a_get (v := .int (σ20.1.1 22 7)) i_Ab_read_60 rfl rfl ?_
            refine a_lload_n i_Ab_read_63 rfl ?_
            obtain ⟨c28, h⟩ := gd_some h
            refine a_las (n := 40) i_Ab_read_64 rfl rfl (inb_in c28) ?_
            refine a_aload_n i_Ab_read_65 rfl ?_
            refine a_aload_n i_Ab_read_66 rfl ?_
            obtain ⟨v31, σ31, e31, h⟩ := am_bd_some h
            refine am_cvd (rest := []) [.ref 31] c_Ab_read_67 ⟨by decide, _, rfl⟩ rfl (Nat.le_of_ble_eq_true rfl) (t_Ab_readOne_31 e31) ?_
            by_cases c32 : v31 = 0
            · rw [if_pos c32] at h
              refine a_iff i_Ab_read_70 c32 ?_
              refine a_iconst i_Ab_read_73 ?_
              exact am_ret_z ok_Ab_read rfl rfl (Or.inl rfl) (am_lf_i h)
            · rw [if_neg c32] at h
              refine a_ift i_Ab_read_70 c32 ?_
              refine a_aload_n i_Ab_read_75 rfl ?_
              refine a_dup_a i_Ab_read_76 ?_
              refine a_get (v := .int (σ31.1.1 22 7)) i_Ab_read_77 rfl rfl ?_
              refine a_iconst i_Ab_read_80 ?_
              refine a_iadd i_Ab_read_81 ?_
              refine a_puti i_Ab_read_82 rfl trivial ?_
              refine a_iinc i_Ab_read_85 rfl rfl ?_
              refine a_goto i_Ab_read_88 ?_
              exact am_wk (ih h) ⟨Or.inr rfl, Or.inr rfl, Or.inr rfl, Or.inl rfl, Or.inl rfl, trivial⟩
          · rw [if_neg c22] at h
            refine a_icf i_Ab_read_50 c22 ?_
            exact am_wk (t_Ab_read_31_53 h) ⟨Or.inl rfl, Or.inl rfl, Or.inl rfl, Or.inl rfl, Or.inl rfl, trivial⟩
    · rw [if_neg c9] at h
      refine a_iff i_Ab_read_22 c9 ?_
      refine a_iconst i_Ab_read_25 ?_
      exact am_ret_z ok_Ab_read rfl rfl (Or.inl rfl) (am_lf_i h)
def g_Ab_read_31 (σ : am_S) : Option (Int32 × am_S) :=
  g_Ab_read_31_7 4000 (0) (am_fi σ 22 7 0)
set_option maxHeartbeats 4000000 in
theorem t_Ab_read_31_0 {σ σ' : am_S} {r : Int32} (h : g_Ab_read_31 σ = some (r, σ')) : am_A S_c M_Ab_read (0, [some (.ref 22), some (.ref 31), none, none, none], [], σ) (am_r S_c (fun q τ => q = some (.int r) ∧ τ = σ')) := by
  unfold g_Ab_read_31 at h
  refine a_aload_n i_Ab_read_0 rfl ?_
  refine a_iconst i_Ab_read_1 ?_
  refine a_puti i_Ab_read_2 rfl trivial ?_
  refine a_iconst i_Ab_read_5 ?_
  refine a_istore_n i_Ab_read_6 rfl ?_
  exact t_Ab_read_31_7 4000 h
theorem t_Ab_read_31 {σ σ' : am_S} {r : Int32} (h : g_Ab_read_31 σ = some (r, σ')) : am_Mt S_c M_Ab_read [.ref 22, .ref 31] σ (fun q τ => q = some (.int r) ∧ τ = σ') :=
  am_M_of ok_Ab_read (Nat.le_of_ble_eq_true rfl) (t_Ab_read_31_0 h)
def g_Ur_readHead_48 (σ : am_S) : Option (Int32 × am_S) :=
  some (0, σ)
set_option maxHeartbeats 4000000 in
theorem t_Ur_readHead_48 {σ σ' : am_S} {r : Int32} (h : g_Ur_readHead_48 σ = some (r, σ')) : am_A S_c M_Ur_readHead (48, [none, none, none, none, none, none], [], σ) (am_r S_c (fun q τ => q = some (.int r) ∧ τ = σ')) := by
  unfold g_Ur_readHead_48 at h
  refine a_iconst i_Ur_readHead_48 ?_
  exact am_ret_z ok_Ur_readHead rfl rfl (Or.inl rfl) (am_lf_i h)
def g_Ur_readHead_110 (σ : am_S) : Option (Int32 × am_S) :=
  some (0, σ)
set_option maxHeartbeats 4000000 in
theorem t_Ur_readHead_110 {σ σ' : am_S} {r : Int32} (h : g_Ur_readHead_110 σ = some (r, σ')) : am_A S_c M_Ur_readHead (110, [none, none, none, none, none, none], [], σ) (am_r S_c (fun q τ => q = some (.int r) ∧ τ = σ')) := by
  unfold g_Ur_readHead_110 at h
  refine a_iconst i_Ur_readHead_110 ?_
  exact am_ret_z ok_Ur_readHead rfl rfl (Or.inl rfl) (am_lf_i h)
def g_Ur_readHead (σ : am_S) : Option (Int32 × am_S) :=
  am_bd (g_Cu_number 30 (4) σ) fun v8 σ8 =>
  if (σ8.1.1 30 3) = 0 then
    if 0 < (lg_cmp v8 (((σ8.1.1 30 2) - (σ8.1.1 30 1)).toInt64)) then
      g_Ur_readHead_48 σ8
    else
      am_bd (g_Cu_number 30 (2) (am_fi σ8 30 2 ((σ8.1.1 30 1) + v8.toInt32))) fun v37 σ37 =>
      if (lg_cmp v37 5) = 0 then
        am_bd (g_Cu_number 30 (1) σ37) fun v44 σ44 =>
        if (lg_cmp v44 1) = 0 then
          am_bd (g_Cu_number 30 (1) σ44) fun v51 σ51 =>
          if (lg_cmp v51 8) = 0 then
            am_bd (g_Cu_number 30 (4) σ51) fun v58 σ58 =>
            if (σ58.1.1 30 3) = 0 then
              am_bd (g_En_addUnit (σ.1.1 30 1) σ58) fun _ σ67 =>
              am_bd (g_Se_point 31 (0) v58 σ67) fun _ σ74 =>
              am_bd (g_Ab_read_31 σ74) fun v79 σ79 =>
              am_gd (z01 v79) <|
              some (v79, σ79)
            else
              some (0, σ58)
          else
            g_Ur_readHead_110 σ51
        else
          g_Ur_readHead_110 σ44
      else
        g_Ur_readHead_110 σ37
  else
    g_Ur_readHead_48 σ8
set_option maxHeartbeats 4000000 in
theorem t_Ur_readHead_0 {σ σ' : am_S} {r : Int32} (h : g_Ur_readHead σ = some (r, σ')) : am_A S_c M_Ur_readHead (0, [some (.ref 21), none, none, none, none, none], [], σ) (am_r S_c (fun q τ => q = some (.int r) ∧ τ = σ')) := by
  unfold g_Ur_readHead at h
  refine a_aload_n i_Ur_readHead_0 rfl ?_
  refine a_get (v := .ref 30) i_Ur_readHead_1 rfl rfl ?_
  refine a_get (v := .int (σ.1.1 30 1)) i_Ur_readHead_4 rfl rfl ?_
  refine a_istore_n i_Ur_readHead_7 rfl ?_
  refine a_aload_n i_Ur_readHead_8 rfl ?_
  refine a_get (v := .ref 30) i_Ur_readHead_9 rfl rfl ?_
  refine a_iconst i_Ur_readHead_12 ?_
  obtain ⟨v8, σ8, e8, h⟩ := am_bd_some h
  refine am_cvd (rest := []) [.int 4] c_Ur_readHead_13 ⟨by decide, _, rfl⟩ rfl (Nat.le_of_ble_eq_true rfl) (t_Cu_number cu_30 e8) ?_
  refine a_lstore_n i_Ur_readHead_16 rfl ?_
  refine a_aload_n i_Ur_readHead_17 rfl ?_
  refine a_get (v := .ref 30) i_Ur_readHead_18 rfl rfl ?_
  refine a_get (v := .int (σ8.1.1 30 3)) i_Ur_readHead_21 rfl rfl ?_
  by_cases c13 : (σ8.1.1 30 3) = 0
  · rw [if_pos c13] at h
    refine a_iff i_Ur_readHead_24 c13 ?_
    refine a_lload_n i_Ur_readHead_27 rfl ?_
    refine a_aload_n i_Ur_readHead_28 rfl ?_
    refine a_get (v := .ref 30) i_Ur_readHead_29 rfl rfl ?_
    refine a_get (v := .int (σ8.1.1 30 2)) i_Ur_readHead_32 rfl rfl ?_
    refine a_aload_n i_Ur_readHead_35 rfl ?_
    refine a_get (v := .ref 30) i_Ur_readHead_36 rfl rfl ?_
    refine a_get (v := .int (σ8.1.1 30 1)) i_Ur_readHead_39 rfl rfl ?_
    refine a_isub i_Ur_readHead_42 ?_
    refine a_i2l i_Ur_readHead_43 ?_
    refine a_lcmp i_Ur_readHead_44 ?_
    by_cases c24 : 0 < (lg_cmp v8 (((σ8.1.1 30 2) - (σ8.1.1 30 1)).toInt64))
    · rw [if_pos c24] at h
      refine a_iff i_Ur_readHead_45 (Int32.not_le.mpr c24) ?_
      exact am_wk (t_Ur_readHead_48 h) ⟨Or.inl rfl, Or.inl rfl, Or.inl rfl, Or.inl rfl, Or.inl rfl, Or.inl rfl, trivial⟩
    · rw [if_neg c24] at h
      refine a_ift i_Ur_readHead_45 (Int32.not_lt.mp c24) ?_
      refine a_aload_n i_Ur_readHead_50 rfl ?_
      refine a_get (v := .ref 30) i_Ur_readHead_51 rfl rfl ?_
      refine a_aload_n i_Ur_readHead_54 rfl ?_
      refine a_get (v := .ref 30) i_Ur_readHead_55 rfl rfl ?_
      refine a_get (v := .int (σ8.1.1 30 1)) i_Ur_readHead_58 rfl rfl ?_
      refine a_lload_n i_Ur_readHead_61 rfl ?_
      refine a_l2i i_Ur_readHead_62 ?_
      refine a_iadd i_Ur_readHead_63 ?_
      refine a_puti i_Ur_readHead_64 rfl trivial ?_
      refine a_aload_n i_Ur_readHead_67 rfl ?_
      refine a_get (v := .ref 30) i_Ur_readHead_68 rfl rfl ?_
      refine a_iconst i_Ur_readHead_71 ?_
      obtain ⟨v37, σ37, e37, h⟩ := am_bd_some h
      refine am_cvd (rest := []) [.int 2] c_Ur_readHead_72 ⟨by decide, _, rfl⟩ rfl (Nat.le_of_ble_eq_true rfl) (t_Cu_number cu_30 e37) ?_
      refine a_ldc2 i_Ur_readHead_75 ?_
      refine a_lcmp i_Ur_readHead_78 ?_
      by_cases c40 : (lg_cmp v37 5) = 0
      · rw [if_pos c40] at h
        refine a_iff i_Ur_readHead_79 c40 ?_
        refine a_aload_n i_Ur_readHead_82 rfl ?_
        refine a_get (v := .ref 30) i_Ur_readHead_83 rfl rfl ?_
        refine a_iconst i_Ur_readHead_86 ?_
        obtain ⟨v44, σ44, e44, h⟩ := am_bd_some h
        refine am_cvd (rest := []) [.int 1] c_Ur_readHead_87 ⟨by decide, _, rfl⟩ rfl (Nat.le_of_ble_eq_true rfl) (t_Cu_number cu_30 e44) ?_
        refine a_lconst i_Ur_readHead_90 ?_
        refine a_lcmp i_Ur_readHead_91 ?_
        by_cases c47 : (lg_cmp v44 1) = 0
        · rw [if_pos c47] at h
          refine a_iff i_Ur_readHead_92 c47 ?_
          refine a_aload_n i_Ur_readHead_95 rfl ?_
          refine a_get (v := .ref 30) i_Ur_readHead_96 rfl rfl ?_
          refine a_iconst i_Ur_readHead_99 ?_
          obtain ⟨v51, σ51, e51, h⟩ := am_bd_some h
          refine am_cvd (rest := []) [.int 1] c_Ur_readHead_100 ⟨by decide, _, rfl⟩ rfl (Nat.le_of_ble_eq_true rfl) (t_Cu_number cu_30 e51) ?_
          refine a_ldc2 i_Ur_readHead_103 ?_
          refine a_lcmp i_Ur_readHead_106 ?_
          by_cases c54 : (lg_cmp v51 8) = 0
          · rw [if_pos c54] at h
            refine a_ift i_Ur_readHead_107 c54 ?_
            refine a_aload_n i_Ur_readHead_112 rfl ?_
            refine a_get (v := .ref 30) i_Ur_readHead_113 rfl rfl ?_
            refine a_iconst i_Ur_readHead_116 ?_
            obtain ⟨v58, σ58, e58, h⟩ := am_bd_some h
            refine am_cvd (rest := []) [.int 4] c_Ur_readHead_117 ⟨by decide, _, rfl⟩ rfl (Nat.le_of_ble_eq_true rfl) (t_Cu_number cu_30 e58) ?_
            refine a_lstore i_Ur_readHead_120 rfl ?_
            refine a_aload_n i_Ur_readHead_122 rfl ?_
            refine a_get (v := .ref 30) i_Ur_readHead_123 rfl rfl ?_
            refine a_get (v := .int (σ58.1.1 30 3)) i_Ur_readHead_126 rfl rfl ?_
            by_cases c63 : (σ58.1.1 30 3) = 0
            · rw [if_pos c63] at h
              refine a_ift i_Ur_readHead_129 c63 ?_
              refine a_aload_n i_Ur_readHead_134 rfl ?_
              refine a_get (v := .ref 10) i_Ur_readHead_135 rfl rfl ?_
              refine a_iload_n i_Ur_readHead_138 rfl ?_
              obtain ⟨v67, σ67, e67, h⟩ := am_bd_some h
              refine am_cvd (rest := []) [.int (σ.1.1 30 1)] c_Ur_readHead_139 ⟨by decide, _, rfl⟩ rfl (Nat.le_of_ble_eq_true rfl) (t_En_addUnit e67) ?_
              refine a_aload_n i_Ur_readHead_142 rfl ?_
              refine a_get (v := .ref 2) i_Ur_readHead_143 rfl rfl ?_
              refine a_aload_n i_Ur_readHead_146 rfl ?_
              refine a_get (v := .ref 31) i_Ur_readHead_147 rfl rfl ?_
              refine a_iconst i_Ur_readHead_150 ?_
              refine a_lload i_Ur_readHead_151 rfl ?_
              obtain ⟨v74, σ74, e74, h⟩ := am_bd_some h
              refine am_cvd (rest := []) [.ref 31, .int 0, .long v58] c_Ur_readHead_153 ⟨by decide, _, rfl⟩ rfl (Nat.le_of_ble_eq_true rfl) (t_Se_point cu_31 e74) ?_
              refine a_aload_n i_Ur_readHead_156 rfl ?_
              refine a_get (v := .ref 22) i_Ur_readHead_157 rfl rfl ?_
              refine a_aload_n i_Ur_readHead_160 rfl ?_
              refine a_get (v := .ref 31) i_Ur_readHead_161 rfl rfl ?_
              obtain ⟨v79, σ79, e79, h⟩ := am_bd_some h
              refine am_cvd (rest := []) [.ref 31] c_Ur_readHead_164 ⟨by decide, _, rfl⟩ rfl (Nat.le_of_ble_eq_true rfl) (t_Ab_read_31 e79) ?_
              obtain ⟨c80, h⟩ := gd_some h
              exact am_ret_z ok_Ur_readHead rfl rfl (z01_or c80) (am_lf_i h)
            · rw [if_neg c63] at h
              refine a_iff i_Ur_readHead_129 c63 ?_
              refine a_iconst i_Ur_readHead_132 ?_
              exact am_ret_z ok_Ur_readHead rfl rfl (Or.inl rfl) (am_lf_i h)
          · rw [if_neg c54] at h
            refine a_iff i_Ur_readHead_107 c54 ?_
            exact am_wk (t_Ur_readHead_110 h) ⟨Or.inl rfl, Or.inl rfl, Or.inl rfl, Or.inl rfl, Or.inl rfl, Or.inl rfl, trivial⟩
        · rw [if_neg c47] at h
          refine a_ift i_Ur_readHead_92 c47 ?_
          exact am_wk (t_Ur_readHead_110 h) ⟨Or.inl rfl, Or.inl rfl, Or.inl rfl, Or.inl rfl, Or.inl rfl, Or.inl rfl, trivial⟩
      · rw [if_neg c40] at h
        refine a_ift i_Ur_readHead_79 c40 ?_
        exact am_wk (t_Ur_readHead_110 h) ⟨Or.inl rfl, Or.inl rfl, Or.inl rfl, Or.inl rfl, Or.inl rfl, Or.inl rfl, trivial⟩
  · rw [if_neg c13] at h
    refine a_ift i_Ur_readHead_24 c13 ?_
    exact am_wk (t_Ur_readHead_48 h) ⟨Or.inl rfl, Or.inl rfl, Or.inl rfl, Or.inl rfl, Or.inl rfl, Or.inl rfl, trivial⟩
theorem t_Ur_readHead {σ σ' : am_S} {r : Int32} (h : g_Ur_readHead σ = some (r, σ')) : am_Mt S_c M_Ur_readHead [.ref 21] σ (fun q τ => q = some (.int r) ∧ τ = σ') :=
  am_M_of ok_Ur_readHead (Nat.le_of_ble_eq_true rfl) (t_Ur_readHead_0 h)
def g_Ur_endChildren (σ : am_S) : Option (Int32 × am_S) :=
  if (σ.1.1 21 6) = 0 then
    some (0, σ)
  else
    am_gd (inb (σ.1.1 21 5) 200) <|
    some (1, am_fi (am_fi σ 21 6 ((σ.1.1 21 6) - 1)) 21 5 ((am_fi σ 21 6 ((σ.1.1 21 6) - 1)).2.1 12 (σ.1.1 21 5).toNatClampNeg))
set_option maxHeartbeats 4000000 in
theorem t_Ur_endChildren_0 {σ σ' : am_S} {r : Int32} (h : g_Ur_endChildren σ = some (r, σ')) : am_A S_c M_Ur_endChildren (0, [some (.ref 21)], [], σ) (am_r S_c (fun q τ => q = some (.int r) ∧ τ = σ')) := by
  unfold g_Ur_endChildren at h
  refine a_aload_n i_Ur_endChildren_0 rfl ?_
  refine a_get (v := .int (σ.1.1 21 6)) i_Ur_endChildren_1 rfl rfl ?_
  by_cases c3 : (σ.1.1 21 6) = 0
  · rw [if_pos c3] at h
    refine a_iff i_Ur_endChildren_4 c3 ?_
    refine a_iconst i_Ur_endChildren_7 ?_
    exact am_ret_z ok_Ur_endChildren rfl rfl (Or.inl rfl) (am_lf_i h)
  · rw [if_neg c3] at h
    refine a_ift i_Ur_endChildren_4 c3 ?_
    refine a_aload_n i_Ur_endChildren_9 rfl ?_
    refine a_dup_a i_Ur_endChildren_10 ?_
    refine a_get (v := .int (σ.1.1 21 6)) i_Ur_endChildren_11 rfl rfl ?_
    refine a_iconst i_Ur_endChildren_14 ?_
    refine a_isub i_Ur_endChildren_15 ?_
    refine a_puti i_Ur_endChildren_16 rfl trivial ?_
    refine a_aload_n i_Ur_endChildren_19 rfl ?_
    refine a_aload_n i_Ur_endChildren_20 rfl ?_
    refine a_get (v := .ref 10) i_Ur_endChildren_21 rfl rfl ?_
    refine a_get (v := .ref 12) i_Ur_endChildren_24 rfl rfl ?_
    refine a_aload_n i_Ur_endChildren_27 rfl ?_
    refine a_get (v := .int (σ.1.1 21 5)) i_Ur_endChildren_28 rfl rfl ?_
    obtain ⟨c16, h⟩ := gd_some h
    refine a_ial (n := 200) i_Ur_endChildren_31 (by decide) rfl rfl (inb_in c16) ?_
    refine a_puti i_Ur_endChildren_32 rfl trivial ?_
    refine a_iconst i_Ur_endChildren_35 ?_
    exact am_ret_z ok_Ur_endChildren rfl rfl (Or.inr rfl) (am_lf_i h)
theorem t_Ur_endChildren {σ σ' : am_S} {r : Int32} (h : g_Ur_endChildren σ = some (r, σ')) : am_Mt S_c M_Ur_endChildren [.ref 21] σ (fun q τ => q = some (.int r) ∧ τ = σ') :=
  am_M_of ok_Ur_endChildren (Nat.le_of_ble_eq_true rfl) (t_Ur_endChildren_0 h)
def g_Ur_readValue_164 (σ : am_S) : Option (Int64 × am_S) :=
  am_bd (g_Cu_number 30 (8) σ) fun v4 σ4 =>
  some (v4, σ4)
set_option maxHeartbeats 4000000 in
theorem t_Ur_readValue_164 {σ σ' : am_S} {r : Int64} (h : g_Ur_readValue_164 σ = some (r, σ')) : am_A S_c M_Ur_readValue (164, [some (.ref 21), none, none, none], [], σ) (am_r S_c (fun q τ => q = some (.long r) ∧ τ = σ')) := by
  unfold g_Ur_readValue_164 at h
  refine a_aload_n i_Ur_readValue_164 rfl ?_
  refine a_get (v := .ref 30) i_Ur_readValue_165 rfl rfl ?_
  refine a_bipush i_Ur_readValue_168 ?_
  obtain ⟨v4, σ4, e4, h⟩ := am_bd_some h
  refine am_cvd (rest := []) [.int 8] c_Ur_readValue_170 ⟨by decide, _, rfl⟩ rfl (Nat.le_of_ble_eq_true rfl) (t_Cu_number cu_30 e4) ?_
  exact am_ret_l ok_Ur_readValue rfl rfl (am_lf_l h)
def g_Ur_readValue_174 (σ : am_S) : Option (Int64 × am_S) :=
  am_bd (g_Cu_number 30 (1) σ) fun v4 σ4 =>
  some (v4, σ4)
set_option maxHeartbeats 4000000 in
theorem t_Ur_readValue_174 {σ σ' : am_S} {r : Int64} (h : g_Ur_readValue_174 σ = some (r, σ')) : am_A S_c M_Ur_readValue (174, [some (.ref 21), none, none, none], [], σ) (am_r S_c (fun q τ => q = some (.long r) ∧ τ = σ')) := by
  unfold g_Ur_readValue_174 at h
  refine a_aload_n i_Ur_readValue_174 rfl ?_
  refine a_get (v := .ref 30) i_Ur_readValue_175 rfl rfl ?_
  refine a_iconst i_Ur_readValue_178 ?_
  obtain ⟨v4, σ4, e4, h⟩ := am_bd_some h
  refine am_cvd (rest := []) [.int 1] c_Ur_readValue_179 ⟨by decide, _, rfl⟩ rfl (Nat.le_of_ble_eq_true rfl) (t_Cu_number cu_30 e4) ?_
  exact am_ret_l ok_Ur_readValue rfl rfl (am_lf_l h)
def g_Ur_readValue_200 (σ : am_S) : Option (Int64 × am_S) :=
  am_bd (g_Cu_uleb 30 σ) fun v3 σ3 =>
  some (v3, σ3)
set_option maxHeartbeats 4000000 in
theorem t_Ur_readValue_200 {σ σ' : am_S} {r : Int64} (h : g_Ur_readValue_200 σ = some (r, σ')) : am_A S_c M_Ur_readValue (200, [some (.ref 21), none, none, none], [], σ) (am_r S_c (fun q τ => q = some (.long r) ∧ τ = σ')) := by
  unfold g_Ur_readValue_200 at h
  refine a_aload_n i_Ur_readValue_200 rfl ?_
  refine a_get (v := .ref 30) i_Ur_readValue_201 rfl rfl ?_
  obtain ⟨v3, σ3, e3, h⟩ := am_bd_some h
  refine am_cvd (rest := []) [] c_Ur_readValue_204 ⟨by decide, _, rfl⟩ rfl (Nat.le_of_ble_eq_true rfl) (t_Cu_uleb cu_30 e3) ?_
  exact am_ret_l ok_Ur_readValue rfl rfl (am_lf_l h)
def g_Ur_readValue_237 (σ : am_S) : Option (Int64 × am_S) :=
  am_bd (g_Cu_number 30 (4) σ) fun v4 σ4 =>
  some (v4, σ4)
set_option maxHeartbeats 4000000 in
theorem t_Ur_readValue_237 {σ σ' : am_S} {r : Int64} (h : g_Ur_readValue_237 σ = some (r, σ')) : am_A S_c M_Ur_readValue (237, [some (.ref 21), none, none, none], [], σ) (am_r S_c (fun q τ => q = some (.long r) ∧ τ = σ')) := by
  unfold g_Ur_readValue_237 at h
  refine a_aload_n i_Ur_readValue_237 rfl ?_
  refine a_get (v := .ref 30) i_Ur_readValue_238 rfl rfl ?_
  refine a_iconst i_Ur_readValue_241 ?_
  obtain ⟨v4, σ4, e4, h⟩ := am_bd_some h
  refine am_cvd (rest := []) [.int 4] c_Ur_readValue_242 ⟨by decide, _, rfl⟩ rfl (Nat.le_of_ble_eq_true rfl) (t_Cu_number cu_30 e4) ?_
  exact am_ret_l ok_Ur_readValue rfl rfl (am_lf_l h)
def g_Ur_readValue (x1 : Int32) (x2 : Int64) (σ : am_S) : Option (Int64 × am_S) :=
  if x1 = 1 then
    g_Ur_readValue_164 σ
  else
  if x1 = 5 then
    am_bd (g_Cu_number 30 (2) σ) fun v6 σ6 =>
    some (v6, σ6)
  else
  if x1 = 7 then
    g_Ur_readValue_164 σ
  else
  if x1 = 8 then
    am_bd (g_Cu_text 30 σ) fun v5 σ5 =>
    some (v5.toInt64, σ5)
  else
  if x1 = 11 then
    g_Ur_readValue_174 σ
  else
  if x1 = 13 then
    am_bd (g_Cu_sleb 30 σ) fun v5 σ5 =>
    some (v5, σ5)
  else
  if x1 = 15 then
    g_Ur_readValue_200 σ
  else
  if x1 = 24 then
    am_bd (g_Cu_uleb 30 σ) fun v7 σ7 =>
    am_bd (g_Cu_skip 30 v7 σ7) fun _ σ8 =>
    some (0, σ8)
  else
  if x1 = 25 then
    some (1, σ)
  else
  if x1 = 27 then
    g_Ur_readValue_200 σ
  else
  if x1 = 33 then
    some (x2, σ)
  else
  if x1 = 35 then
    g_Ur_readValue_200 σ
  else
  if x1 = 37 then
    g_Ur_readValue_174 σ
  else
  g_Ur_readValue_237 σ
set_option maxHeartbeats 4000000 in
theorem t_Ur_readValue_0 {x1 : Int32} {x2 : Int64} {σ σ' : am_S} {r : Int64} (h : g_Ur_readValue x1 x2 σ = some (r, σ')) : am_A S_c M_Ur_readValue (0, [some (.ref 21), some (.int x1), some (.long x2), none], [], σ) (am_r S_c (fun q τ => q = some (.long r) ∧ τ = σ')) := by
  unfold g_Ur_readValue at h
  refine a_iload_n i_Ur_readValue_0 rfl ?_
  by_cases d2_0 : x1 = 1
  · rw [if_pos d2_0] at h
    refine a_tab 0 i_Ur_readValue_1 rfl (by rw [d2_0]; decide) (by decide) rfl ?_
    exact am_wk (t_Ur_readValue_164 h) ⟨Or.inr rfl, Or.inl rfl, Or.inl rfl, Or.inl rfl, trivial⟩
  rw [if_neg d2_0] at h
  by_cases d2_1 : x1 = 5
  · rw [if_pos d2_1] at h
    refine a_tab 4 i_Ur_readValue_1 rfl (by rw [d2_1]; decide) (by decide) rfl ?_
    refine a_aload_n i_Ur_readValue_183 rfl ?_
    refine a_get (v := .ref 30) i_Ur_readValue_184 rfl rfl ?_
    refine a_iconst i_Ur_readValue_187 ?_
    obtain ⟨v6, σ6, e6, h⟩ := am_bd_some h
    refine am_cvd (rest := []) [.int 2] c_Ur_readValue_188 ⟨by decide, _, rfl⟩ rfl (Nat.le_of_ble_eq_true rfl) (t_Cu_number cu_30 e6) ?_
    exact am_ret_l ok_Ur_readValue rfl rfl (am_lf_l h)
  rw [if_neg d2_1] at h
  by_cases d2_2 : x1 = 7
  · rw [if_pos d2_2] at h
    refine a_tab 6 i_Ur_readValue_1 rfl (by rw [d2_2]; decide) (by decide) rfl ?_
    exact am_wk (t_Ur_readValue_164 h) ⟨Or.inr rfl, Or.inl rfl, Or.inl rfl, Or.inl rfl, trivial⟩
  rw [if_neg d2_2] at h
  by_cases d2_3 : x1 = 8
  · rw [if_pos d2_3] at h
    refine a_tab 7 i_Ur_readValue_1 rfl (by rw [d2_3]; decide) (by decide) rfl ?_
    refine a_aload_n i_Ur_readValue_212 rfl ?_
    refine a_get (v := .ref 30) i_Ur_readValue_213 rfl rfl ?_
    obtain ⟨v5, σ5, e5, h⟩ := am_bd_some h
    refine am_cvd (rest := []) [] c_Ur_readValue_216 ⟨by decide, _, rfl⟩ rfl (Nat.le_of_ble_eq_true rfl) (t_Cu_text cu_30 e5) ?_
    refine a_i2l i_Ur_readValue_219 ?_
    exact am_ret_l ok_Ur_readValue rfl rfl (am_lf_l h)
  rw [if_neg d2_3] at h
  by_cases d2_4 : x1 = 11
  · rw [if_pos d2_4] at h
    refine a_tab 10 i_Ur_readValue_1 rfl (by rw [d2_4]; decide) (by decide) rfl ?_
    exact am_wk (t_Ur_readValue_174 h) ⟨Or.inr rfl, Or.inl rfl, Or.inl rfl, Or.inl rfl, trivial⟩
  rw [if_neg d2_4] at h
  by_cases d2_5 : x1 = 13
  · rw [if_pos d2_5] at h
    refine a_tab 12 i_Ur_readValue_1 rfl (by rw [d2_5]; decide) (by decide) rfl ?_
    refine a_aload_n i_Ur_readValue_192 rfl ?_
    refine a_get (v := .ref 30) i_Ur_readValue_193 rfl rfl ?_
    obtain ⟨v5, σ5, e5, h⟩ := am_bd_some h
    refine am_cvd (rest := []) [] c_Ur_readValue_196 ⟨by decide, _, rfl⟩ rfl (Nat.le_of_ble_eq_true rfl) (t_Cu_sleb cu_30 e5) ?_
    exact am_ret_l ok_Ur_readValue rfl rfl (am_lf_l h)
  rw [if_neg d2_5] at h
  by_cases d2_6 : x1 = 15
  · rw [if_pos d2_6] at h
    refine a_tab 14 i_Ur_readValue_1 rfl (by rw [d2_6]; decide) (by decide) rfl ?_
    exact am_wk (t_Ur_readValue_200 h) ⟨Or.inr rfl, Or.inl rfl, Or.inl rfl, Or.inl rfl, trivial⟩
  rw [if_neg d2_6] at h
  by_cases d2_7 : x1 = 24
  · rw [if_pos d2_7] at h
    refine a_tab 23 i_Ur_readValue_1 rfl (by rw [d2_7]; decide) (by decide) rfl ?_
    refine a_aload_n i_Ur_readValue_221 rfl ?_
    refine a_get (v := .ref 30) i_Ur_readValue_222 rfl rfl ?_
    refine a_aload_n i_Ur_readValue_225 rfl ?_
    refine a_get (v := .ref 30) i_Ur_readValue_226 rfl rfl ?_
    obtain ⟨v7, σ7, e7, h⟩ := am_bd_some h
    refine am_cvd (rest := [.ref 30]) [] c_Ur_readValue_229 ⟨by decide, _, rfl⟩ rfl (Nat.le_of_ble_eq_true rfl) (t_Cu_uleb cu_30 e7) ?_
    obtain ⟨v8, σ8, e8, h⟩ := am_bd_some h
    refine am_cvd (rest := []) [.long v7] c_Ur_readValue_232 ⟨by decide, _, rfl⟩ rfl (Nat.le_of_ble_eq_true rfl) (t_Cu_skip cu_30 e8) ?_
    refine a_lconst i_Ur_readValue_235 ?_
    exact am_ret_l ok_Ur_readValue rfl rfl (am_lf_l h)
  rw [if_neg d2_7] at h
  by_cases d2_8 : x1 = 25
  · rw [if_pos d2_8] at h
    refine a_tab 24 i_Ur_readValue_1 rfl (by rw [d2_8]; decide) (by decide) rfl ?_
    refine a_lconst i_Ur_readValue_210 ?_
    exact am_ret_l ok_Ur_readValue rfl rfl (am_lf_l h)
  rw [if_neg d2_8] at h
  by_cases d2_9 : x1 = 27
  · rw [if_pos d2_9] at h
    refine a_tab 26 i_Ur_readValue_1 rfl (by rw [d2_9]; decide) (by decide) rfl ?_
    exact am_wk (t_Ur_readValue_200 h) ⟨Or.inr rfl, Or.inl rfl, Or.inl rfl, Or.inl rfl, trivial⟩
  rw [if_neg d2_9] at h
  by_cases d2_10 : x1 = 33
  · rw [if_pos d2_10] at h
    refine a_tab 32 i_Ur_readValue_1 rfl (by rw [d2_10]; decide) (by decide) rfl ?_
    refine a_lload_n i_Ur_readValue_208 rfl ?_
    exact am_ret_l ok_Ur_readValue rfl rfl (am_lf_l h)
  rw [if_neg d2_10] at h
  by_cases d2_11 : x1 = 35
  · rw [if_pos d2_11] at h
    refine a_tab 34 i_Ur_readValue_1 rfl (by rw [d2_11]; decide) (by decide) rfl ?_
    exact am_wk (t_Ur_readValue_200 h) ⟨Or.inr rfl, Or.inl rfl, Or.inl rfl, Or.inl rfl, trivial⟩
  rw [if_neg d2_11] at h
  by_cases d2_12 : x1 = 37
  · rw [if_pos d2_12] at h
    refine a_tab 36 i_Ur_readValue_1 rfl (by rw [d2_12]; decide) (by decide) rfl ?_
    exact am_wk (t_Ur_readValue_174 h) ⟨Or.inr rfl, Or.inl rfl, Or.inl rfl, Or.inl rfl, trivial⟩
  rw [if_neg d2_12] at h
  refine a_tabn [1, 5, 7, 8, 11, 13, 15, 24, 25, 27, 33, 35, 37] i_Ur_readValue_1 rfl rfl (by decide) (List.forall_mem_cons.mpr ⟨lv_neT d2_0 (a := 1) (by decide), List.forall_mem_cons.mpr ⟨lv_neT d2_1 (a := 5) (by decide), List.forall_mem_cons.mpr ⟨lv_neT d2_2 (a := 7) (by decide), List.forall_mem_cons.mpr ⟨lv_neT d2_3 (a := 8) (by decide), List.forall_mem_cons.mpr ⟨lv_neT d2_4 (a := 11) (by decide), List.forall_mem_cons.mpr ⟨lv_neT d2_5 (a := 13) (by decide), List.forall_mem_cons.mpr ⟨lv_neT d2_6 (a := 15) (by decide), List.forall_mem_cons.mpr ⟨lv_neT d2_7 (a := 24) (by decide), List.forall_mem_cons.mpr ⟨lv_neT d2_8 (a := 25) (by decide), List.forall_mem_cons.mpr ⟨lv_neT d2_9 (a := 27) (by decide), List.forall_mem_cons.mpr ⟨lv_neT d2_10 (a := 33) (by decide), List.forall_mem_cons.mpr ⟨lv_neT d2_11 (a := 35) (by decide), List.forall_mem_cons.mpr ⟨lv_neT d2_12 (a := 37) (by decide), fun _ h9 => absurd h9 List.not_mem_nil⟩⟩⟩⟩⟩⟩⟩⟩⟩⟩⟩⟩⟩) ?_
  exact am_wk (t_Ur_readValue_237 h) ⟨Or.inr rfl, Or.inl rfl, Or.inl rfl, Or.inl rfl, trivial⟩
theorem t_Ur_readValue {x1 : Int32} {x2 : Int64} {σ σ' : am_S} {r : Int64} (h : g_Ur_readValue x1 x2 σ = some (r, σ')) : am_Mt S_c M_Ur_readValue [.ref 21, .int x1, .long x2] σ (fun q τ => q = some (.long r) ∧ τ = σ') :=
  am_M_of ok_Ur_readValue (Nat.le_of_ble_eq_true rfl) (t_Ur_readValue_0 h)
def g_Ur_readEntry_29 (σ : am_S) : Option (Int32 × am_S) :=
  some (0, σ)
set_option maxHeartbeats 4000000 in
theorem t_Ur_readEntry_29 {σ σ' : am_S} {r : Int32} (h : g_Ur_readEntry_29 σ = some (r, σ')) : am_A S_c M_Ur_readEntry (29, [none, none, none, none, none, none, none, none, none, none], [], σ) (am_r S_c (fun q τ => q = some (.int r) ∧ τ = σ')) := by
  unfold g_Ur_readEntry_29 at h
  refine a_iconst i_Ur_readEntry_29 ?_
  exact am_ret_z ok_Ur_readEntry rfl rfl (Or.inl rfl) (am_lf_i h)
def g_Ur_readEntry_74 (σ : am_S) : Option (Int32 × am_S) :=
  some (0, σ)
set_option maxHeartbeats 4000000 in
theorem t_Ur_readEntry_74 {σ σ' : am_S} {r : Int32} (h : g_Ur_readEntry_74 σ = some (r, σ')) : am_A S_c M_Ur_readEntry (74, [none, none, none, none, none, none, none, none, none, none], [], σ) (am_r S_c (fun q τ => q = some (.int r) ∧ τ = σ')) := by
  unfold g_Ur_readEntry_74 at h
  refine a_iconst i_Ur_readEntry_74 ?_
  exact am_ret_z ok_Ur_readEntry rfl rfl (Or.inl rfl) (am_lf_i h)
def g_Ur_readEntry_250 (y0 : Int32) (σ : am_S) : Option (Int32 × am_S) :=
  am_gd (z01 y0) <|
  some (y0, σ)
set_option maxHeartbeats 4000000 in
theorem t_Ur_readEntry_250 {y0 : Int32} {σ σ' : am_S} {r : Int32} (h : g_Ur_readEntry_250 y0 σ = some (r, σ')) : am_A S_c M_Ur_readEntry (250, [none, none, none, none, none, none, none, none, none, none], [.int y0], σ) (am_r S_c (fun q τ => q = some (.int r) ∧ τ = σ')) := by
  unfold g_Ur_readEntry_250 at h
  obtain ⟨c1, h⟩ := gd_some h
  exact am_ret_z ok_Ur_readEntry rfl rfl (z01_or c1) (am_lf_i h)
def g_Ur_readEntry_249 (σ : am_S) : Option (Int32 × am_S) :=
  g_Ur_readEntry_250 (0) σ
set_option maxHeartbeats 4000000 in
theorem t_Ur_readEntry_249 {σ σ' : am_S} {r : Int32} (h : g_Ur_readEntry_249 σ = some (r, σ')) : am_A S_c M_Ur_readEntry (249, [none, none, none, none, none, none, none, none, none, none], [], σ) (am_r S_c (fun q τ => q = some (.int r) ∧ τ = σ')) := by
  unfold g_Ur_readEntry_249 at h
  refine a_iconst i_Ur_readEntry_249 ?_
  exact t_Ur_readEntry_250 h
def g_Ur_readEntry_226 (σ : am_S) : Option (Int32 × am_S) :=
  if (σ.1.1 30 3) = 0 then
    if 16 < (σ.1.1 21 6) then
      g_Ur_readEntry_249 σ
    else
      g_Ur_readEntry_250 (1) σ
  else
    g_Ur_readEntry_249 σ
set_option maxHeartbeats 4000000 in
theorem t_Ur_readEntry_226 {σ σ' : am_S} {r : Int32} (h : g_Ur_readEntry_226 σ = some (r, σ')) : am_A S_c M_Ur_readEntry (226, [some (.ref 21), none, none, none, none, none, none, none, none, none], [], σ) (am_r S_c (fun q τ => q = some (.int r) ∧ τ = σ')) := by
  unfold g_Ur_readEntry_226 at h
  refine a_aload_n i_Ur_readEntry_226 rfl ?_
  refine a_get (v := .ref 30) i_Ur_readEntry_227 rfl rfl ?_
  refine a_get (v := .int (σ.1.1 30 3)) i_Ur_readEntry_230 rfl rfl ?_
  by_cases c4 : (σ.1.1 30 3) = 0
  · rw [if_pos c4] at h
    refine a_iff i_Ur_readEntry_233 c4 ?_
    refine a_aload_n i_Ur_readEntry_236 rfl ?_
    refine a_get (v := .int (σ.1.1 21 6)) i_Ur_readEntry_237 rfl rfl ?_
    refine a_bipush i_Ur_readEntry_240 ?_
    by_cases c8 : 16 < (σ.1.1 21 6)
    · rw [if_pos c8] at h
      refine a_ict i_Ur_readEntry_242 c8 ?_
      exact am_wk (t_Ur_readEntry_249 h) ⟨Or.inl rfl, Or.inl rfl, Or.inl rfl, Or.inl rfl, Or.inl rfl, Or.inl rfl, Or.inl rfl, Or.inl rfl, Or.inl rfl, Or.inl rfl, trivial⟩
    · rw [if_neg c8] at h
      refine a_icf i_Ur_readEntry_242 c8 ?_
      refine a_iconst i_Ur_readEntry_245 ?_
      refine a_goto i_Ur_readEntry_246 ?_
      exact am_wk (t_Ur_readEntry_250 h) ⟨Or.inl rfl, Or.inl rfl, Or.inl rfl, Or.inl rfl, Or.inl rfl, Or.inl rfl, Or.inl rfl, Or.inl rfl, Or.inl rfl, Or.inl rfl, trivial⟩
  · rw [if_neg c4] at h
    refine a_ift i_Ur_readEntry_233 c4 ?_
    exact am_wk (t_Ur_readEntry_249 h) ⟨Or.inl rfl, Or.inl rfl, Or.inl rfl, Or.inl rfl, Or.inl rfl, Or.inl rfl, Or.inl rfl, Or.inl rfl, Or.inl rfl, Or.inl rfl, trivial⟩
def g_Ur_readEntry_190 (x5 : Int32) (σ : am_S) : Option (Int32 × am_S) :=
  am_gd (inb x5 40) <|
  if (σ.2.1 25 x5.toNatClampNeg) = 0 then
    g_Ur_readEntry_226 σ
  else
    g_Ur_readEntry_226 (am_fi (am_fi σ 21 5 ((σ.1.1 10 10) - 1)) 21 6 ((σ.1.1 21 6) + 1))
set_option maxHeartbeats 4000000 in
theorem t_Ur_readEntry_190 {x5 : Int32} {σ σ' : am_S} {r : Int32} (h : g_Ur_readEntry_190 x5 σ = some (r, σ')) : am_A S_c M_Ur_readEntry (190, [some (.ref 21), none, none, none, none, some (.int x5), none, none, none, none], [], σ) (am_r S_c (fun q τ => q = some (.int r) ∧ τ = σ')) := by
  unfold g_Ur_readEntry_190 at h
  refine a_aload_n i_Ur_readEntry_190 rfl ?_
  refine a_get (v := .ref 22) i_Ur_readEntry_191 rfl rfl ?_
  refine a_get (v := .ref 25) i_Ur_readEntry_194 rfl rfl ?_
  refine a_iload i_Ur_readEntry_197 rfl ?_
  obtain ⟨c5, h⟩ := gd_some h
  refine a_bal (n := 40) i_Ur_readEntry_199 rfl rfl (inb_in c5) ?_
  by_cases c6 : (σ.2.1 25 x5.toNatClampNeg) = 0
  · rw [if_pos c6] at h
    refine a_ift i_Ur_readEntry_200 c6 ?_
    exact am_wk (t_Ur_readEntry_226 h) ⟨Or.inr rfl, Or.inl rfl, Or.inl rfl, Or.inl rfl, Or.inl rfl, Or.inl rfl, Or.inl rfl, Or.inl rfl, Or.inl rfl, Or.inl rfl, trivial⟩
  · rw [if_neg c6] at h
    refine a_iff i_Ur_readEntry_200 c6 ?_
    refine a_aload_n i_Ur_readEntry_203 rfl ?_
    refine a_aload_n i_Ur_readEntry_204 rfl ?_
    refine a_get (v := .ref 10) i_Ur_readEntry_205 rfl rfl ?_
    refine a_get (v := .int (σ.1.1 10 10)) i_Ur_readEntry_208 rfl rfl ?_
    refine a_iconst i_Ur_readEntry_211 ?_
    refine a_isub i_Ur_readEntry_212 ?_
    refine a_puti i_Ur_readEntry_213 rfl trivial ?_
    refine a_aload_n i_Ur_readEntry_216 rfl ?_
    refine a_dup_a i_Ur_readEntry_217 ?_
    refine a_get (v := .int (σ.1.1 21 6)) i_Ur_readEntry_218 rfl rfl ?_
    refine a_iconst i_Ur_readEntry_221 ?_
    refine a_iadd i_Ur_readEntry_222 ?_
    refine a_puti i_Ur_readEntry_223 rfl trivial ?_
    exact am_wk (t_Ur_readEntry_226 h) ⟨Or.inr rfl, Or.inl rfl, Or.inl rfl, Or.inl rfl, Or.inl rfl, Or.inl rfl, Or.inl rfl, Or.inl rfl, Or.inl rfl, Or.inl rfl, trivial⟩
def g_Ur_readEntry_109 : Nat → Int32 → Int32 → Int32 → am_S → Option (Int32 × am_S)
  | 0, _, _, _, _ => none
  | n + 1, x5, x7, x8, σ =>
  am_gd (inb x5 40) <|
  if x8 < (x7 + (σ.2.1 26 x5.toNatClampNeg)) then
    if (σ.1.1 30 3) = 0 then
      am_gd (inb x8 480) <|
      am_gd (inb x8 480) <|
      am_gd (inb x8 480) <|
      am_bd (g_Ur_readValue (σ.2.1 28 x8.toNatClampNeg) (σ.2.2 29 x8.toNatClampNeg) σ) fun v35 σ35 =>
      am_bd (g_En_keep (σ.2.2 27 x8.toNatClampNeg) (σ.2.1 28 x8.toNatClampNeg) v35 σ35) fun _ σ36 =>
      g_Ur_readEntry_109 n x5 x7 (x8 + 1) σ36
    else
      g_Ur_readEntry_190 x5 σ
  else
    g_Ur_readEntry_190 x5 σ
set_option maxHeartbeats 4000000 in
theorem t_Ur_readEntry_109 : ∀ (n : Nat) {x5 : Int32} {x7 : Int32} {x8 : Int32} {σ σ' : am_S} {r : Int32} (h : g_Ur_readEntry_109 n x5 x7 x8 σ = some (r, σ')), am_A S_c M_Ur_readEntry (109, [some (.ref 21), none, none, none, none, some (.int x5), none, some (.int x7), some (.int x8), none], [], σ) (am_r S_c (fun q τ => q = some (.int r) ∧ τ = σ')) := by
  intro n
  induction n with
  | zero =>
    intro x5 x7 x8 σ σ' r h
    cases h
  | succ n ih =>
  intro x5 x7 x8 σ σ' r h
  unfold g_Ur_readEntry_109 at h
  refine a_iload i_Ur_readEntry_109 rfl ?_
  refine a_iload i_Ur_readEntry_111 rfl ?_
  refine a_aload_n i_Ur_readEntry_113 rfl ?_
  refine a_get (v := .ref 22) i_Ur_readEntry_114 rfl rfl ?_
  refine a_get (v := .ref 26) i_Ur_readEntry_117 rfl rfl ?_
  refine a_iload i_Ur_readEntry_120 rfl ?_
  obtain ⟨c7, h⟩ := gd_some h
  refine a_ial (n := 40) i_Ur_readEntry_122 (by decide) rfl rfl (inb_in c7) ?_
  refine a_iadd i_Ur_readEntry_123 ?_
  by_cases c9 : x8 < (x7 + (σ.2.1 26 x5.toNatClampNeg))
  · rw [if_pos c9] at h
    refine a_icf i_Ur_readEntry_124 (Int32.not_le.mpr c9) ?_
    refine a_aload_n i_Ur_readEntry_127 rfl ?_
    refine a_get (v := .ref 30) i_Ur_readEntry_128 rfl rfl ?_
    refine a_get (v := .int (σ.1.1 30 3)) i_Ur_readEntry_131 rfl rfl ?_
    by_cases c13 : (σ.1.1 30 3) = 0
    · rw [if_pos c13] at h
      refine a_iff i_Ur_readEntry_134 c13 ?_
      refine a_aload_n i_Ur_readEntry_137 rfl ?_
      refine a_get (v := .ref 22) i_Ur_readEntry_138 rfl rfl ?_
      refine a_get (v := .ref 28) i_Ur_readEntry_141 rfl rfl ?_
      refine a_iload i_Ur_readEntry_144 rfl ?_
      obtain ⟨c18, h⟩ := gd_some h
      refine a_ial (n := 480) i_Ur_readEntry_146 (by decide) rfl rfl (inb_in c18) ?_
      refine a_istore i_Ur_readEntry_147 rfl ?_
      refine a_aload_n i_Ur_readEntry_149 rfl ?_
      refine a_get (v := .ref 10) i_Ur_readEntry_150 rfl rfl ?_
      refine a_aload_n i_Ur_readEntry_153 rfl ?_
      refine a_get (v := .ref 22) i_Ur_readEntry_154 rfl rfl ?_
      refine a_get (v := .ref 27) i_Ur_readEntry_157 rfl rfl ?_
      refine a_iload i_Ur_readEntry_160 rfl ?_
      obtain ⟨c26, h⟩ := gd_some h
      refine a_lal (n := 480) i_Ur_readEntry_162 rfl rfl (inb_in c26) ?_
      refine a_iload i_Ur_readEntry_163 rfl ?_
      refine a_aload_n i_Ur_readEntry_165 rfl ?_
      refine a_iload i_Ur_readEntry_166 rfl ?_
      refine a_aload_n i_Ur_readEntry_168 rfl ?_
      refine a_get (v := .ref 22) i_Ur_readEntry_169 rfl rfl ?_
      refine a_get (v := .ref 29) i_Ur_readEntry_172 rfl rfl ?_
      refine a_iload i_Ur_readEntry_175 rfl ?_
      obtain ⟨c34, h⟩ := gd_some h
      refine a_lal (n := 480) i_Ur_readEntry_177 rfl rfl (inb_in c34) ?_
      obtain ⟨v35, σ35, e35, h⟩ := am_bd_some h
      refine am_cvd (rest := [.int (σ.2.1 28 x8.toNatClampNeg), .long (σ.2.2 27 x8.toNatClampNeg), .ref 10]) [.int (σ.2.1 28 x8.toNatClampNeg), .long (σ.2.2 29 x8.toNatClampNeg)] c_Ur_readEntry_178 ⟨by decide, _, rfl⟩ rfl (Nat.le_of_ble_eq_true rfl) (t_Ur_readValue e35) ?_
      obtain ⟨v36, σ36, e36, h⟩ := am_bd_some h
      refine am_cvd (rest := []) [.long (σ.2.2 27 x8.toNatClampNeg), .int (σ.2.1 28 x8.toNatClampNeg), .long v35] c_Ur_readEntry_181 ⟨by decide, _, rfl⟩ rfl (Nat.le_of_ble_eq_true rfl) (t_En_keep e36) ?_
      refine a_iinc i_Ur_readEntry_184 rfl rfl ?_
      refine a_goto i_Ur_readEntry_187 ?_
      exact am_wk (ih h) ⟨Or.inr rfl, Or.inl rfl, Or.inl rfl, Or.inl rfl, Or.inl rfl, Or.inr rfl, Or.inl rfl, Or.inr rfl, Or.inr rfl, Or.inl rfl, trivial⟩
    · rw [if_neg c13] at h
      refine a_ift i_Ur_readEntry_134 c13 ?_
      exact am_wk (t_Ur_readEntry_190 h) ⟨Or.inr rfl, Or.inl rfl, Or.inl rfl, Or.inl rfl, Or.inl rfl, Or.inr rfl, Or.inl rfl, Or.inl rfl, Or.inl rfl, Or.inl rfl, trivial⟩
  · rw [if_neg c9] at h
    refine a_ict i_Ur_readEntry_124 (Int32.not_lt.mp c9) ?_
    exact am_wk (t_Ur_readEntry_190 h) ⟨Or.inr rfl, Or.inl rfl, Or.inl rfl, Or.inl rfl, Or.inl rfl, Or.inr rfl, Or.inl rfl, Or.inl rfl, Or.inl rfl, Or.inl rfl, trivial⟩
def g_Ur_readEntry_76 (x3 : Int32) (x5 : Int32) (σ : am_S) : Option (Int32 × am_S) :=
  am_gd (inb x5 40) <|
  am_bd (g_En_add (σ.2.2 24 x5.toNatClampNeg) (σ.1.1 21 5) x3 σ) fun _ σ11 =>
  g_Ur_readEntry_109 4000 x5 (x5 * 12) (x5 * 12) σ11
set_option maxHeartbeats 4000000 in
theorem t_Ur_readEntry_76 {x3 : Int32} {x5 : Int32} {σ σ' : am_S} {r : Int32} (h : g_Ur_readEntry_76 x3 x5 σ = some (r, σ')) : am_A S_c M_Ur_readEntry (76, [some (.ref 21), none, none, some (.int x3), none, some (.int x5), none, none, none, none], [], σ) (am_r S_c (fun q τ => q = some (.int r) ∧ τ = σ')) := by
  unfold g_Ur_readEntry_76 at h
  refine a_aload_n i_Ur_readEntry_76 rfl ?_
  refine a_get (v := .ref 10) i_Ur_readEntry_77 rfl rfl ?_
  refine a_aload_n i_Ur_readEntry_80 rfl ?_
  refine a_get (v := .ref 22) i_Ur_readEntry_81 rfl rfl ?_
  refine a_get (v := .ref 24) i_Ur_readEntry_84 rfl rfl ?_
  refine a_iload i_Ur_readEntry_87 rfl ?_
  obtain ⟨c7, h⟩ := gd_some h
  refine a_lal (n := 40) i_Ur_readEntry_89 rfl rfl (inb_in c7) ?_
  refine a_aload_n i_Ur_readEntry_90 rfl ?_
  refine a_get (v := .int (σ.1.1 21 5)) i_Ur_readEntry_91 rfl rfl ?_
  refine a_iload_n i_Ur_readEntry_94 rfl ?_
  obtain ⟨v11, σ11, e11, h⟩ := am_bd_some h
  refine am_cvd (rest := []) [.long (σ.2.2 24 x5.toNatClampNeg), .int (σ.1.1 21 5), .int x3] c_Ur_readEntry_95 ⟨by decide, _, rfl⟩ rfl (Nat.le_of_ble_eq_true rfl) (t_En_add e11) ?_
  refine a_iload i_Ur_readEntry_98 rfl ?_
  refine a_bipush i_Ur_readEntry_100 ?_
  refine a_imul i_Ur_readEntry_102 ?_
  refine a_istore i_Ur_readEntry_103 rfl ?_
  refine a_iload i_Ur_readEntry_105 rfl ?_
  refine a_istore i_Ur_readEntry_107 rfl ?_
  exact am_wk (t_Ur_readEntry_109 4000 h) ⟨Or.inr rfl, Or.inl rfl, Or.inl rfl, Or.inl rfl, Or.inl rfl, Or.inr rfl, Or.inl rfl, Or.inr rfl, Or.inr rfl, Or.inl rfl, trivial⟩
def g_Ur_readEntry_53 (x3 : Int32) (x4 : Int32) (x5 : Int32) (y0 : Int32) (σ : am_S) : Option (Int32 × am_S) :=
  if y0 = x4 then
    if x4 = 0 then
      if (σ.1.1 21 6) = 0 then
        g_Ur_readEntry_74 σ
      else
        g_Ur_readEntry_76 x3 x5 σ
    else
      g_Ur_readEntry_76 x3 x5 σ
  else
    g_Ur_readEntry_74 σ
set_option maxHeartbeats 4000000 in
theorem t_Ur_readEntry_53 {x3 : Int32} {x4 : Int32} {x5 : Int32} {y0 : Int32} {σ σ' : am_S} {r : Int32} (h : g_Ur_readEntry_53 x3 x4 x5 y0 σ = some (r, σ')) : am_A S_c M_Ur_readEntry (53, [some (.ref 21), none, none, some (.int x3), some (.int x4), some (.int x5), none, none, none, none], [.int y0], σ) (am_r S_c (fun q τ => q = some (.int r) ∧ τ = σ')) := by
  unfold g_Ur_readEntry_53 at h
  refine a_istore i_Ur_readEntry_53 rfl ?_
  refine a_iload i_Ur_readEntry_55 rfl ?_
  refine a_iload i_Ur_readEntry_57 rfl ?_
  by_cases c4 : y0 = x4
  · rw [if_pos c4] at h
    refine a_icf i_Ur_readEntry_59 c4 ?_
    refine a_iload i_Ur_readEntry_62 rfl ?_
    by_cases c6 : x4 = 0
    · rw [if_pos c6] at h
      refine a_iff i_Ur_readEntry_64 c6 ?_
      refine a_aload_n i_Ur_readEntry_67 rfl ?_
      refine a_get (v := .int (σ.1.1 21 6)) i_Ur_readEntry_68 rfl rfl ?_
      by_cases c9 : (σ.1.1 21 6) = 0
      · rw [if_pos c9] at h
        refine a_iff i_Ur_readEntry_71 c9 ?_
        exact am_wk (t_Ur_readEntry_74 h) ⟨Or.inl rfl, Or.inl rfl, Or.inl rfl, Or.inl rfl, Or.inl rfl, Or.inl rfl, Or.inl rfl, Or.inl rfl, Or.inl rfl, Or.inl rfl, trivial⟩
      · rw [if_neg c9] at h
        refine a_ift i_Ur_readEntry_71 c9 ?_
        exact am_wk (t_Ur_readEntry_76 h) ⟨Or.inr rfl, Or.inl rfl, Or.inl rfl, Or.inr rfl, Or.inl rfl, Or.inr rfl, Or.inl rfl, Or.inl rfl, Or.inl rfl, Or.inl rfl, trivial⟩
    · rw [if_neg c6] at h
      refine a_ift i_Ur_readEntry_64 c6 ?_
      exact am_wk (t_Ur_readEntry_76 h) ⟨Or.inr rfl, Or.inl rfl, Or.inl rfl, Or.inr rfl, Or.inl rfl, Or.inr rfl, Or.inl rfl, Or.inl rfl, Or.inl rfl, Or.inl rfl, trivial⟩
  · rw [if_neg c4] at h
    refine a_ict i_Ur_readEntry_59 c4 ?_
    exact am_wk (t_Ur_readEntry_74 h) ⟨Or.inl rfl, Or.inl rfl, Or.inl rfl, Or.inl rfl, Or.inl rfl, Or.inl rfl, Or.inl rfl, Or.inl rfl, Or.inl rfl, Or.inl rfl, trivial⟩
def g_Ur_readEntry (x1 : Int64) (x3 : Int32) (x4 : Int32) (σ : am_S) : Option (Int32 × am_S) :=
  am_bd (g_Ab_withNumber x1 σ) fun v4 σ4 =>
  if v4 = (-1) then
    g_Ur_readEntry_29 σ4
  else
    if (σ4.1.1 10 10) = 200 then
      g_Ur_readEntry_29 σ4
    else
      am_gd (inb v4 40) <|
      if (lg_cmp (σ4.2.2 24 v4.toNatClampNeg) 17) = 0 then
        g_Ur_readEntry_53 x3 x4 v4 (1) σ4
      else
        g_Ur_readEntry_53 x3 x4 v4 (0) σ4
set_option maxHeartbeats 4000000 in
theorem t_Ur_readEntry_0 {x1 : Int64} {x3 : Int32} {x4 : Int32} {σ σ' : am_S} {r : Int32} (h : g_Ur_readEntry x1 x3 x4 σ = some (r, σ')) : am_A S_c M_Ur_readEntry (0, [some (.ref 21), some (.long x1), none, some (.int x3), some (.int x4), none, none, none, none, none], [], σ) (am_r S_c (fun q τ => q = some (.int r) ∧ τ = σ')) := by
  unfold g_Ur_readEntry at h
  refine a_aload_n i_Ur_readEntry_0 rfl ?_
  refine a_get (v := .ref 22) i_Ur_readEntry_1 rfl rfl ?_
  refine a_lload_n i_Ur_readEntry_4 rfl ?_
  obtain ⟨v4, σ4, e4, h⟩ := am_bd_some h
  refine am_cvd (rest := []) [.long x1] c_Ur_readEntry_5 ⟨by decide, _, rfl⟩ rfl (Nat.le_of_ble_eq_true rfl) (t_Ab_withNumber e4) ?_
  refine a_istore i_Ur_readEntry_8 rfl ?_
  refine a_iload i_Ur_readEntry_10 rfl ?_
  refine a_iconst i_Ur_readEntry_12 ?_
  by_cases c8 : v4 = (-1)
  · rw [if_pos c8] at h
    refine a_ict i_Ur_readEntry_13 c8 ?_
    exact am_wk (t_Ur_readEntry_29 h) ⟨Or.inl rfl, Or.inl rfl, Or.inl rfl, Or.inl rfl, Or.inl rfl, Or.inl rfl, Or.inl rfl, Or.inl rfl, Or.inl rfl, Or.inl rfl, trivial⟩
  · rw [if_neg c8] at h
    refine a_icf i_Ur_readEntry_13 c8 ?_
    refine a_aload_n i_Ur_readEntry_16 rfl ?_
    refine a_get (v := .ref 10) i_Ur_readEntry_17 rfl rfl ?_
    refine a_get (v := .int (σ4.1.1 10 10)) i_Ur_readEntry_20 rfl rfl ?_
    refine a_sipush i_Ur_readEntry_23 ?_
    by_cases c13 : (σ4.1.1 10 10) = 200
    · rw [if_pos c13] at h
      refine a_icf i_Ur_readEntry_26 c13 ?_
      exact am_wk (t_Ur_readEntry_29 h) ⟨Or.inl rfl, Or.inl rfl, Or.inl rfl, Or.inl rfl, Or.inl rfl, Or.inl rfl, Or.inl rfl, Or.inl rfl, Or.inl rfl, Or.inl rfl, trivial⟩
    · rw [if_neg c13] at h
      refine a_ict i_Ur_readEntry_26 c13 ?_
      refine a_aload_n i_Ur_readEntry_31 rfl ?_
      refine a_get (v := .ref 22) i_Ur_readEntry_32 rfl rfl ?_
      refine a_get (v := .ref 24) i_Ur_readEntry_35 rfl rfl ?_
      refine a_iload i_Ur_readEntry_38 rfl ?_
      obtain ⟨c18, h⟩ := gd_some h
      refine a_lal (n := 40) i_Ur_readEntry_40 rfl rfl (inb_in c18) ?_
      refine a_ldc2 i_Ur_readEntry_41 ?_
      refine a_lcmp i_Ur_readEntry_44 ?_
      by_cases c21 : (lg_cmp (σ4.2.2 24 v4.toNatClampNeg) 17) = 0
      · rw [if_pos c21] at h
        refine a_iff i_Ur_readEntry_45 c21 ?_
        refine a_iconst i_Ur_readEntry_48 ?_
        refine a_goto i_Ur_readEntry_49 ?_
        exact am_wk (t_Ur_readEntry_53 h) ⟨Or.inr rfl, Or.inl rfl, Or.inl rfl, Or.inr rfl, Or.inr rfl, Or.inr rfl, Or.inl rfl, Or.inl rfl, Or.inl rfl, Or.inl rfl, trivial⟩
      · rw [if_neg c21] at h
        refine a_ift i_Ur_readEntry_45 c21 ?_
        refine a_iconst i_Ur_readEntry_52 ?_
        exact am_wk (t_Ur_readEntry_53 h) ⟨Or.inr rfl, Or.inl rfl, Or.inl rfl, Or.inr rfl, Or.inr rfl, Or.inr rfl, Or.inl rfl, Or.inl rfl, Or.inl rfl, Or.inl rfl, trivial⟩
theorem t_Ur_readEntry {x1 : Int64} {x3 : Int32} {x4 : Int32} {σ σ' : am_S} {r : Int32} (h : g_Ur_readEntry x1 x3 x4 σ = some (r, σ')) : am_Mt S_c M_Ur_readEntry [.ref 21, .long x1, .int x3, .int x4] σ (fun q τ => q = some (.int r) ∧ τ = σ') :=
  am_M_of ok_Ur_readEntry (Nat.le_of_ble_eq_true rfl) (t_Ur_readEntry_0 h)
def g_Ur_readEntries_110 (go : Int32 → Int32 → am_S → Option (Int32 × am_S)) (x1 : Int32) (x2 : Int32) (y0 : Int32) (σ : am_S) : Option (Int32 × am_S) :=
  if y0 = 0 then
    some (0, σ)
  else
    go x1 (x2 + 1) σ
set_option maxHeartbeats 4000000 in
theorem t_Ur_readEntries_110 {x1 : Int32} {x2 : Int32} {y0 : Int32} {σ σ' : am_S} {r : Int32} {go : Int32 → Int32 → am_S → Option (Int32 × am_S)} (hgo : ∀ {x1 : Int32} {x2 : Int32} {σ σ' : am_S} {r : Int32}, go x1 x2 σ = some (r, σ') → am_A S_c M_Ur_readEntries (20, [some (.ref 21), some (.int x1), some (.int x2), none, none, none, none], [], σ) (am_r S_c (fun q τ => q = some (.int r) ∧ τ = σ'))) (h : g_Ur_readEntries_110 go x1 x2 y0 σ = some (r, σ')) : am_A S_c M_Ur_readEntries (110, [some (.ref 21), some (.int x1), some (.int x2), none, none, none, none], [.int y0], σ) (am_r S_c (fun q τ => q = some (.int r) ∧ τ = σ')) := by
  unfold g_Ur_readEntries_110 at h
  refine a_istore i_Ur_readEntries_110 rfl ?_
  refine a_iload i_Ur_readEntries_112 rfl ?_
  by_cases c3 : y0 = 0
  · rw [if_pos c3] at h
    refine a_iff i_Ur_readEntries_114 c3 ?_
    refine a_iconst i_Ur_readEntries_117 ?_
    exact am_ret_z ok_Ur_readEntries rfl rfl (Or.inl rfl) (am_lf_i h)
  · rw [if_neg c3] at h
    refine a_ift i_Ur_readEntries_114 c3 ?_
    refine a_iinc i_Ur_readEntries_119 rfl rfl ?_
    refine a_goto i_Ur_readEntries_122 ?_
    exact am_wk (hgo h) ⟨Or.inr rfl, Or.inr rfl, Or.inr rfl, Or.inl rfl, Or.inl rfl, Or.inl rfl, Or.inl rfl, trivial⟩
def g_Ur_readEntries_107 (go : Int32 → Int32 → am_S → Option (Int32 × am_S)) (x1 : Int32) (x2 : Int32) (y0 : Int32) (y1 : Int32) (y2 : Int64) (σ : am_S) : Option (Int32 × am_S) :=
  am_bd (g_Ur_readEntry y2 y1 y0 σ) fun v1 σ1 =>
  g_Ur_readEntries_110 go x1 x2 v1 σ1
set_option maxHeartbeats 4000000 in
theorem t_Ur_readEntries_107 {x1 : Int32} {x2 : Int32} {y0 : Int32} {y1 : Int32} {y2 : Int64} {σ σ' : am_S} {r : Int32} {go : Int32 → Int32 → am_S → Option (Int32 × am_S)} (hgo : ∀ {x1 : Int32} {x2 : Int32} {σ σ' : am_S} {r : Int32}, go x1 x2 σ = some (r, σ') → am_A S_c M_Ur_readEntries (20, [some (.ref 21), some (.int x1), some (.int x2), none, none, none, none], [], σ) (am_r S_c (fun q τ => q = some (.int r) ∧ τ = σ'))) (h : g_Ur_readEntries_107 go x1 x2 y0 y1 y2 σ = some (r, σ')) : am_A S_c M_Ur_readEntries (107, [some (.ref 21), some (.int x1), some (.int x2), none, none, none, none], [.int y0, .int y1, .long y2, .ref 21], σ) (am_r S_c (fun q τ => q = some (.int r) ∧ τ = σ')) := by
  unfold g_Ur_readEntries_107 at h
  obtain ⟨v1, σ1, e1, h⟩ := am_bd_some h
  refine am_cvd (rest := []) [.long y2, .int y1, .int y0] c_Ur_readEntries_107 ⟨by decide, _, rfl⟩ rfl (Nat.le_of_ble_eq_true rfl) (t_Ur_readEntry e1) ?_
  exact t_Ur_readEntries_110 hgo h
def g_Ur_readEntries_148 (y0 : Int32) (σ : am_S) : Option (Int32 × am_S) :=
  am_gd (z01 y0) <|
  some (y0, σ)
set_option maxHeartbeats 4000000 in
theorem t_Ur_readEntries_148 {y0 : Int32} {σ σ' : am_S} {r : Int32} (h : g_Ur_readEntries_148 y0 σ = some (r, σ')) : am_A S_c M_Ur_readEntries (148, [none, none, none, none, none, none, none], [.int y0], σ) (am_r S_c (fun q τ => q = some (.int r) ∧ τ = σ')) := by
  unfold g_Ur_readEntries_148 at h
  obtain ⟨c1, h⟩ := gd_some h
  exact am_ret_z ok_Ur_readEntries rfl rfl (z01_or c1) (am_lf_i h)
def g_Ur_readEntries_147 (σ : am_S) : Option (Int32 × am_S) :=
  g_Ur_readEntries_148 (0) σ
set_option maxHeartbeats 4000000 in
theorem t_Ur_readEntries_147 {σ σ' : am_S} {r : Int32} (h : g_Ur_readEntries_147 σ = some (r, σ')) : am_A S_c M_Ur_readEntries (147, [none, none, none, none, none, none, none], [], σ) (am_r S_c (fun q τ => q = some (.int r) ∧ τ = σ')) := by
  unfold g_Ur_readEntries_147 at h
  refine a_iconst i_Ur_readEntries_147 ?_
  exact t_Ur_readEntries_148 h
def g_Ur_readEntries_125 (x1 : Int32) (σ : am_S) : Option (Int32 × am_S) :=
  if (σ.1.1 21 6) = 0 then
    if x1 < (σ.1.1 10 10) then
      g_Ur_readEntries_148 (1) σ
    else
      g_Ur_readEntries_147 σ
  else
    g_Ur_readEntries_147 σ
set_option maxHeartbeats 4000000 in
theorem t_Ur_readEntries_125 {x1 : Int32} {σ σ' : am_S} {r : Int32} (h : g_Ur_readEntries_125 x1 σ = some (r, σ')) : am_A S_c M_Ur_readEntries (125, [some (.ref 21), some (.int x1), none, none, none, none, none], [], σ) (am_r S_c (fun q τ => q = some (.int r) ∧ τ = σ')) := by
  unfold g_Ur_readEntries_125 at h
  refine a_aload_n i_Ur_readEntries_125 rfl ?_
  refine a_get (v := .int (σ.1.1 21 6)) i_Ur_readEntries_126 rfl rfl ?_
  by_cases c3 : (σ.1.1 21 6) = 0
  · rw [if_pos c3] at h
    refine a_iff i_Ur_readEntries_129 c3 ?_
    refine a_aload_n i_Ur_readEntries_132 rfl ?_
    refine a_get (v := .ref 10) i_Ur_readEntries_133 rfl rfl ?_
    refine a_get (v := .int (σ.1.1 10 10)) i_Ur_readEntries_136 rfl rfl ?_
    refine a_iload_n i_Ur_readEntries_139 rfl ?_
    by_cases c8 : x1 < (σ.1.1 10 10)
    · rw [if_pos c8] at h
      refine a_icf i_Ur_readEntries_140 (Int32.not_le.mpr c8) ?_
      refine a_iconst i_Ur_readEntries_143 ?_
      refine a_goto i_Ur_readEntries_144 ?_
      exact am_wk (t_Ur_readEntries_148 h) ⟨Or.inl rfl, Or.inl rfl, Or.inl rfl, Or.inl rfl, Or.inl rfl, Or.inl rfl, Or.inl rfl, trivial⟩
    · rw [if_neg c8] at h
      refine a_ict i_Ur_readEntries_140 (Int32.not_lt.mp c8) ?_
      exact am_wk (t_Ur_readEntries_147 h) ⟨Or.inl rfl, Or.inl rfl, Or.inl rfl, Or.inl rfl, Or.inl rfl, Or.inl rfl, Or.inl rfl, trivial⟩
  · rw [if_neg c3] at h
    refine a_ift i_Ur_readEntries_129 c3 ?_
    exact am_wk (t_Ur_readEntries_147 h) ⟨Or.inl rfl, Or.inl rfl, Or.inl rfl, Or.inl rfl, Or.inl rfl, Or.inl rfl, Or.inl rfl, trivial⟩
def g_Ur_readEntries_20 : Nat → Int32 → Int32 → am_S → Option (Int32 × am_S)
  | 0, _, _, _ => none
  | n + 1, x1, x2, σ =>
  if x2 < 3000 then
    if (σ.1.1 30 1) < (σ.1.1 30 2) then
      am_bd (g_Cu_uleb 30 σ) fun v17 σ17 =>
      if (σ17.1.1 30 3) = 0 then
        if (lg_cmp v17 0) = 0 then
          am_bd (g_Ur_endChildren σ17) fun v28 σ28 =>
          g_Ur_readEntries_110 (g_Ur_readEntries_20 n) x1 x2 v28 σ28
        else
          if (σ17.1.1 10 10) = x1 then
            g_Ur_readEntries_107 (g_Ur_readEntries_20 n) x1 x2 (1) (σ.1.1 30 1) v17 σ17
          else
            g_Ur_readEntries_107 (g_Ur_readEntries_20 n) x1 x2 (0) (σ.1.1 30 1) v17 σ17
      else
        some (0, σ17)
    else
      g_Ur_readEntries_125 x1 σ
  else
    g_Ur_readEntries_125 x1 σ
set_option maxHeartbeats 4000000 in
theorem t_Ur_readEntries_20 : ∀ (n : Nat) {x1 : Int32} {x2 : Int32} {σ σ' : am_S} {r : Int32} (h : g_Ur_readEntries_20 n x1 x2 σ = some (r, σ')), am_A S_c M_Ur_readEntries (20, [some (.ref 21), some (.int x1), some (.int x2), none, none, none, none], [], σ) (am_r S_c (fun q τ => q = some (.int r) ∧ τ = σ')) := by
  intro n
  induction n with
  | zero =>
    intro x1 x2 σ σ' r h
    cases h
  | succ n ih =>
  intro x1 x2 σ σ' r h
  unfold g_Ur_readEntries_20 at h
  refine a_iload_n i_Ur_readEntries_20 rfl ?_
  refine a_sipush i_Ur_readEntries_21 ?_
  by_cases c3 : x2 < 3000
  · rw [if_pos c3] at h
    refine a_icf i_Ur_readEntries_24 (Int32.not_le.mpr c3) ?_
    refine a_aload_n i_Ur_readEntries_27 rfl ?_
    refine a_get (v := .ref 30) i_Ur_readEntries_28 rfl rfl ?_
    refine a_get (v := .int (σ.1.1 30 1)) i_Ur_readEntries_31 rfl rfl ?_
    refine a_aload_n i_Ur_readEntries_34 rfl ?_
    refine a_get (v := .ref 30) i_Ur_readEntries_35 rfl rfl ?_
    refine a_get (v := .int (σ.1.1 30 2)) i_Ur_readEntries_38 rfl rfl ?_
    by_cases c10 : (σ.1.1 30 1) < (σ.1.1 30 2)
    · rw [if_pos c10] at h
      refine a_icf i_Ur_readEntries_41 (Int32.not_le.mpr c10) ?_
      refine a_aload_n i_Ur_readEntries_44 rfl ?_
      refine a_get (v := .ref 30) i_Ur_readEntries_45 rfl rfl ?_
      refine a_get (v := .int (σ.1.1 30 1)) i_Ur_readEntries_48 rfl rfl ?_
      refine a_istore_n i_Ur_readEntries_51 rfl ?_
      refine a_aload_n i_Ur_readEntries_52 rfl ?_
      refine a_get (v := .ref 30) i_Ur_readEntries_53 rfl rfl ?_
      obtain ⟨v17, σ17, e17, h⟩ := am_bd_some h
      refine am_cvd (rest := []) [] c_Ur_readEntries_56 ⟨by decide, _, rfl⟩ rfl (Nat.le_of_ble_eq_true rfl) (t_Cu_uleb cu_30 e17) ?_
      refine a_lstore i_Ur_readEntries_59 rfl ?_
      refine a_aload_n i_Ur_readEntries_61 rfl ?_
      refine a_get (v := .ref 30) i_Ur_readEntries_62 rfl rfl ?_
      refine a_get (v := .int (σ17.1.1 30 3)) i_Ur_readEntries_65 rfl rfl ?_
      by_cases c22 : (σ17.1.1 30 3) = 0
      · rw [if_pos c22] at h
        refine a_ift i_Ur_readEntries_68 c22 ?_
        refine a_lload i_Ur_readEntries_73 rfl ?_
        refine a_lconst i_Ur_readEntries_75 ?_
        refine a_lcmp i_Ur_readEntries_76 ?_
        by_cases c26 : (lg_cmp v17 0) = 0
        · rw [if_pos c26] at h
          refine a_iff i_Ur_readEntries_77 c26 ?_
          refine a_aload_n i_Ur_readEntries_80 rfl ?_
          obtain ⟨v28, σ28, e28, h⟩ := am_bd_some h
          refine am_cvd (rest := []) [] c_Ur_readEntries_81 ⟨by decide, _, rfl⟩ rfl (Nat.le_of_ble_eq_true rfl) (t_Ur_endChildren e28) ?_
          refine a_goto i_Ur_readEntries_84 ?_
          exact am_wk (t_Ur_readEntries_110 (fun h => ih h) h) ⟨Or.inr rfl, Or.inr rfl, Or.inr rfl, Or.inl rfl, Or.inl rfl, Or.inl rfl, Or.inl rfl, trivial⟩
        · rw [if_neg c26] at h
          refine a_ift i_Ur_readEntries_77 c26 ?_
          refine a_aload_n i_Ur_readEntries_87 rfl ?_
          refine a_lload i_Ur_readEntries_88 rfl ?_
          refine a_iload_n i_Ur_readEntries_90 rfl ?_
          refine a_aload_n i_Ur_readEntries_91 rfl ?_
          refine a_get (v := .ref 10) i_Ur_readEntries_92 rfl rfl ?_
          refine a_get (v := .int (σ17.1.1 10 10)) i_Ur_readEntries_95 rfl rfl ?_
          refine a_iload_n i_Ur_readEntries_98 rfl ?_
          by_cases c34 : (σ17.1.1 10 10) = x1
          · rw [if_pos c34] at h
            refine a_icf i_Ur_readEntries_99 c34 ?_
            refine a_iconst i_Ur_readEntries_102 ?_
            refine a_goto i_Ur_readEntries_103 ?_
            exact am_wk (t_Ur_readEntries_107 (fun h => ih h) h) ⟨Or.inr rfl, Or.inr rfl, Or.inr rfl, Or.inl rfl, Or.inl rfl, Or.inl rfl, Or.inl rfl, trivial⟩
          · rw [if_neg c34] at h
            refine a_ict i_Ur_readEntries_99 c34 ?_
            refine a_iconst i_Ur_readEntries_106 ?_
            exact am_wk (t_Ur_readEntries_107 (fun h => ih h) h) ⟨Or.inr rfl, Or.inr rfl, Or.inr rfl, Or.inl rfl, Or.inl rfl, Or.inl rfl, Or.inl rfl, trivial⟩
      · rw [if_neg c22] at h
        refine a_iff i_Ur_readEntries_68 c22 ?_
        refine a_iconst i_Ur_readEntries_71 ?_
        exact am_ret_z ok_Ur_readEntries rfl rfl (Or.inl rfl) (am_lf_i h)
    · rw [if_neg c10] at h
      refine a_ict i_Ur_readEntries_41 (Int32.not_lt.mp c10) ?_
      exact am_wk (t_Ur_readEntries_125 h) ⟨Or.inr rfl, Or.inr rfl, Or.inl rfl, Or.inl rfl, Or.inl rfl, Or.inl rfl, Or.inl rfl, trivial⟩
  · rw [if_neg c3] at h
    refine a_ict i_Ur_readEntries_24 (Int32.not_lt.mp c3) ?_
    exact am_wk (t_Ur_readEntries_125 h) ⟨Or.inr rfl, Or.inr rfl, Or.inl rfl, Or.inl rfl, Or.inl rfl, Or.inl rfl, Or.inl rfl, trivial⟩
def g_Ur_readEntries (σ : am_S) : Option (Int32 × am_S) :=
  g_Ur_readEntries_20 4000 (σ.1.1 10 10) (0) (am_fi (am_fi σ 21 5 (-1)) 21 6 0)
set_option maxHeartbeats 4000000 in
theorem t_Ur_readEntries_0 {σ σ' : am_S} {r : Int32} (h : g_Ur_readEntries σ = some (r, σ')) : am_A S_c M_Ur_readEntries (0, [some (.ref 21), none, none, none, none, none, none], [], σ) (am_r S_c (fun q τ => q = some (.int r) ∧ τ = σ')) := by
  unfold g_Ur_readEntries at h
  refine a_aload_n i_Ur_readEntries_0 rfl ?_
  refine a_iconst i_Ur_readEntries_1 ?_
  refine a_puti i_Ur_readEntries_2 rfl trivial ?_
  refine a_aload_n i_Ur_readEntries_5 rfl ?_
  refine a_iconst i_Ur_readEntries_6 ?_
  refine a_puti i_Ur_readEntries_7 rfl trivial ?_
  refine a_aload_n i_Ur_readEntries_10 rfl ?_
  refine a_get (v := .ref 10) i_Ur_readEntries_11 rfl rfl ?_
  refine a_get (v := .int (σ.1.1 10 10)) i_Ur_readEntries_14 rfl rfl ?_
  refine a_istore_n i_Ur_readEntries_17 rfl ?_
  refine a_iconst i_Ur_readEntries_18 ?_
  refine a_istore_n i_Ur_readEntries_19 rfl ?_
  exact t_Ur_readEntries_20 4000 h
theorem t_Ur_readEntries {σ σ' : am_S} {r : Int32} (h : g_Ur_readEntries σ = some (r, σ')) : am_Mt S_c M_Ur_readEntries [.ref 21] σ (fun q τ => q = some (.int r) ∧ τ = σ') :=
  am_M_of ok_Ur_readEntries (Nat.le_of_ble_eq_true rfl) (t_Ur_readEntries_0 h)
def g_Ur_read_65 (σ : am_S) : Option (Int32 × am_S) :=
  some (0, σ)
set_option maxHeartbeats 4000000 in
theorem t_Ur_read_65 {σ σ' : am_S} {r : Int32} (h : g_Ur_read_65 σ = some (r, σ')) : am_A S_c M_Ur_read (65, [none, none, none], [], σ) (am_r S_c (fun q τ => q = some (.int r) ∧ τ = σ')) := by
  unfold g_Ur_read_65 at h
  refine a_iconst i_Ur_read_65 ?_
  exact am_ret_z ok_Ur_read rfl rfl (Or.inl rfl) (am_lf_i h)
def g_Ur_read_81 (σ : am_S) : Option (Int32 × am_S) :=
  some (1, σ)
set_option maxHeartbeats 4000000 in
theorem t_Ur_read_81 {σ σ' : am_S} {r : Int32} (h : g_Ur_read_81 σ = some (r, σ')) : am_A S_c M_Ur_read (81, [none, none, none], [], σ) (am_r S_c (fun q τ => q = some (.int r) ∧ τ = σ')) := by
  unfold g_Ur_read_81 at h
  refine a_iconst i_Ur_read_81 ?_
  exact am_ret_z ok_Ur_read rfl rfl (Or.inr rfl) (am_lf_i h)
def g_Ur_read_30 : Nat → Int32 → Int32 → am_S → Option (Int32 × am_S)
  | 0, _, _, _ => none
  | n + 1, x1, x2, σ =>
  if 4 < x2 then
    g_Ur_read_81 σ
  else
    if (σ.1.1 30 1) < x1 then
      if x2 = 4 then
        g_Ur_read_65 σ
      else
        am_bd (g_Ur_readHead σ) fun v13 σ13 =>
        if v13 = 0 then
          g_Ur_read_65 σ13
        else
          am_bd (g_Ur_readEntries σ13) fun v16 σ16 =>
          if v16 = 0 then
            g_Ur_read_65 σ16
          else
            g_Ur_read_30 n x1 (x2 + 1) (am_fi σ16 30 2 x1)
    else
      g_Ur_read_81 σ
set_option maxHeartbeats 4000000 in
theorem t_Ur_read_30 : ∀ (n : Nat) {x1 : Int32} {x2 : Int32} {σ σ' : am_S} {r : Int32} (h : g_Ur_read_30 n x1 x2 σ = some (r, σ')), am_A S_c M_Ur_read (30, [some (.ref 21), some (.int x1), some (.int x2)], [], σ) (am_r S_c (fun q τ => q = some (.int r) ∧ τ = σ')) := by
  intro n
  induction n with
  | zero =>
    intro x1 x2 σ σ' r h
    cases h
  | succ n ih =>
  intro x1 x2 σ σ' r h
  unfold g_Ur_read_30 at h
  refine a_iload_n i_Ur_read_30 rfl ?_
  refine a_iconst i_Ur_read_31 ?_
  by_cases c3 : 4 < x2
  · rw [if_pos c3] at h
    refine a_ict i_Ur_read_32 c3 ?_
    exact am_wk (t_Ur_read_81 h) ⟨Or.inl rfl, Or.inl rfl, Or.inl rfl, trivial⟩
  · rw [if_neg c3] at h
    refine a_icf i_Ur_read_32 c3 ?_
    refine a_aload_n i_Ur_read_35 rfl ?_
    refine a_get (v := .ref 30) i_Ur_read_36 rfl rfl ?_
    refine a_get (v := .int (σ.1.1 30 1)) i_Ur_read_39 rfl rfl ?_
    refine a_iload_n i_Ur_read_42 rfl ?_
    by_cases c8 : (σ.1.1 30 1) < x1
    · rw [if_pos c8] at h
      refine a_icf i_Ur_read_43 (Int32.not_le.mpr c8) ?_
      refine a_iload_n i_Ur_read_46 rfl ?_
      refine a_iconst i_Ur_read_47 ?_
      by_cases c11 : x2 = 4
      · rw [if_pos c11] at h
        refine a_ict i_Ur_read_48 c11 ?_
        exact am_wk (t_Ur_read_65 h) ⟨Or.inl rfl, Or.inl rfl, Or.inl rfl, trivial⟩
      · rw [if_neg c11] at h
        refine a_icf i_Ur_read_48 c11 ?_
        refine a_aload_n i_Ur_read_51 rfl ?_
        obtain ⟨v13, σ13, e13, h⟩ := am_bd_some h
        refine am_cvd (rest := []) [] c_Ur_read_52 ⟨by decide, _, rfl⟩ rfl (Nat.le_of_ble_eq_true rfl) (t_Ur_readHead e13) ?_
        by_cases c14 : v13 = 0
        · rw [if_pos c14] at h
          refine a_ift i_Ur_read_55 c14 ?_
          exact am_wk (t_Ur_read_65 h) ⟨Or.inl rfl, Or.inl rfl, Or.inl rfl, trivial⟩
        · rw [if_neg c14] at h
          refine a_iff i_Ur_read_55 c14 ?_
          refine a_aload_n i_Ur_read_58 rfl ?_
          obtain ⟨v16, σ16, e16, h⟩ := am_bd_some h
          refine am_cvd (rest := []) [] c_Ur_read_59 ⟨by decide, _, rfl⟩ rfl (Nat.le_of_ble_eq_true rfl) (t_Ur_readEntries e16) ?_
          by_cases c17 : v16 = 0
          · rw [if_pos c17] at h
            refine a_iff i_Ur_read_62 c17 ?_
            exact am_wk (t_Ur_read_65 h) ⟨Or.inl rfl, Or.inl rfl, Or.inl rfl, trivial⟩
          · rw [if_neg c17] at h
            refine a_ift i_Ur_read_62 c17 ?_
            refine a_aload_n i_Ur_read_67 rfl ?_
            refine a_get (v := .ref 30) i_Ur_read_68 rfl rfl ?_
            refine a_iload_n i_Ur_read_71 rfl ?_
            refine a_puti i_Ur_read_72 rfl trivial ?_
            refine a_iinc i_Ur_read_75 rfl rfl ?_
            refine a_goto i_Ur_read_78 ?_
            exact ih h
    · rw [if_neg c8] at h
      refine a_ict i_Ur_read_43 (Int32.not_lt.mp c8) ?_
      exact am_wk (t_Ur_read_81 h) ⟨Or.inl rfl, Or.inl rfl, Or.inl rfl, trivial⟩
def g_Ur_read (σ : am_S) : Option (Int32 × am_S) :=
  am_bd (g_En_forgetAll σ) fun _ σ3 =>
  am_bd (g_Se_point 30 (1) (0) σ3) fun _ σ10 =>
  g_Ur_read_30 4000 (σ10.1.1 30 2) (0) σ10
set_option maxHeartbeats 4000000 in
theorem t_Ur_read_0 {σ σ' : am_S} {r : Int32} (h : g_Ur_read σ = some (r, σ')) : am_A S_c M_Ur_read (0, [some (.ref 21), none, none], [], σ) (am_r S_c (fun q τ => q = some (.int r) ∧ τ = σ')) := by
  unfold g_Ur_read at h
  refine a_aload_n i_Ur_read_0 rfl ?_
  refine a_get (v := .ref 10) i_Ur_read_1 rfl rfl ?_
  obtain ⟨v3, σ3, e3, h⟩ := am_bd_some h
  refine am_cvd (rest := []) [] c_Ur_read_4 ⟨by decide, _, rfl⟩ rfl (Nat.le_of_ble_eq_true rfl) (t_En_forgetAll e3) ?_
  refine a_aload_n i_Ur_read_7 rfl ?_
  refine a_get (v := .ref 2) i_Ur_read_8 rfl rfl ?_
  refine a_aload_n i_Ur_read_11 rfl ?_
  refine a_get (v := .ref 30) i_Ur_read_12 rfl rfl ?_
  refine a_iconst i_Ur_read_15 ?_
  refine a_lconst i_Ur_read_16 ?_
  obtain ⟨v10, σ10, e10, h⟩ := am_bd_some h
  refine am_cvd (rest := []) [.ref 30, .int 1, .long 0] c_Ur_read_17 ⟨by decide, _, rfl⟩ rfl (Nat.le_of_ble_eq_true rfl) (t_Se_point cu_30 e10) ?_
  refine a_aload_n i_Ur_read_20 rfl ?_
  refine a_get (v := .ref 30) i_Ur_read_21 rfl rfl ?_
  refine a_get (v := .int (σ10.1.1 30 2)) i_Ur_read_24 rfl rfl ?_
  refine a_istore_n i_Ur_read_27 rfl ?_
  refine a_iconst i_Ur_read_28 ?_
  refine a_istore_n i_Ur_read_29 rfl ?_
  exact t_Ur_read_30 4000 h
theorem t_Ur_read {σ σ' : am_S} {r : Int32} (h : g_Ur_read σ = some (r, σ')) : am_Mt S_c M_Ur_read [.ref 21] σ (fun q τ => q = some (.int r) ∧ τ = σ') :=
  am_M_of ok_Ur_read (Nat.le_of_ble_eq_true rfl) (t_Ur_read_0 h)
def g_Ra_begin (x1 : Int32) (σ : am_S) : Option (Unit × am_S) :=
  am_gd (inb x1 200) <|
  some ((), am_ai σ 35 x1.toNatClampNeg (σ.1.1 32 4))
set_option maxHeartbeats 4000000 in
theorem t_Ra_begin_0 {x1 : Int32} {σ σ' : am_S} {r : Unit} (h : g_Ra_begin x1 σ = some (r, σ')) : am_A S_c M_Ra_begin (0, [some (.ref 32), some (.int x1)], [], σ) (am_r S_c (fun q τ => q = none ∧ τ = σ')) := by
  unfold g_Ra_begin at h
  refine a_aload_n i_Ra_begin_0 rfl ?_
  refine a_get (v := .ref 35) i_Ra_begin_1 rfl rfl ?_
  refine a_iload_n i_Ra_begin_4 rfl ?_
  refine a_aload_n i_Ra_begin_5 rfl ?_
  refine a_get (v := .int (σ.1.1 32 4)) i_Ra_begin_6 rfl rfl ?_
  obtain ⟨c6, h⟩ := gd_some h
  refine a_ias (n := 200) i_Ra_begin_9 rfl rfl (inb_in c6) ?_
  exact am_ret_v ok_Ra_begin rfl rfl (am_lf_v h)
theorem t_Ra_begin {x1 : Int32} {σ σ' : am_S} {r : Unit} (h : g_Ra_begin x1 σ = some (r, σ')) : am_Mt S_c M_Ra_begin [.ref 32, .int x1] σ (fun q τ => q = none ∧ τ = σ') :=
  am_M_of ok_Ra_begin (Nat.le_of_ble_eq_true rfl) (t_Ra_begin_0 h)
def g_Ra_end (x1 : Int32) (σ : am_S) : Option (Unit × am_S) :=
  am_gd (inb x1 200) <|
  some ((), am_ai σ 36 x1.toNatClampNeg (σ.1.1 32 4))
set_option maxHeartbeats 4000000 in
theorem t_Ra_end_0 {x1 : Int32} {σ σ' : am_S} {r : Unit} (h : g_Ra_end x1 σ = some (r, σ')) : am_A S_c M_Ra_end (0, [some (.ref 32), some (.int x1)], [], σ) (am_r S_c (fun q τ => q = none ∧ τ = σ')) := by
  unfold g_Ra_end at h
  refine a_aload_n i_Ra_end_0 rfl ?_
  refine a_get (v := .ref 36) i_Ra_end_1 rfl rfl ?_
  refine a_iload_n i_Ra_end_4 rfl ?_
  refine a_aload_n i_Ra_end_5 rfl ?_
  refine a_get (v := .int (σ.1.1 32 4)) i_Ra_end_6 rfl rfl ?_
  obtain ⟨c6, h⟩ := gd_some h
  refine a_ias (n := 200) i_Ra_end_9 rfl rfl (inb_in c6) ?_
  exact am_ret_v ok_Ra_end rfl rfl (am_lf_v h)
theorem t_Ra_end {x1 : Int32} {σ σ' : am_S} {r : Unit} (h : g_Ra_end x1 σ = some (r, σ')) : am_Mt S_c M_Ra_end [.ref 32, .int x1] σ (fun q τ => q = none ∧ τ = σ') :=
  am_M_of ok_Ra_end (Nat.le_of_ble_eq_true rfl) (t_Ra_end_0 h)
