def g_Mo_readOne_85 (go : Int32 → Int32 → Int32 → Int32 → am_S → Option (Int32 × am_S)) (x1 : Int32) (x2 : Int32) (x3 : Int32) (x4 : Int32) (σ : am_S) : Option (Int32 × am_S) :=
  go x1 x2 x3 (x4 + 1) σ
set_option maxHeartbeats 4000000 in
theorem t_Mo_readOne_85 {x1 : Int32} {x2 : Int32} {x3 : Int32} {x4 : Int32} {σ σ' : am_S} {r : Int32} {go : Int32 → Int32 → Int32 → Int32 → am_S → Option (Int32 × am_S)} (hgo : ∀ {x1 : Int32} {x2 : Int32} {x3 : Int32} {x4 : Int32} {σ σ' : am_S} {r : Int32}, go x1 x2 x3 x4 σ = some (r, σ') → am_A S_m M_Mo_readOne (5, [some (.ref 0), some (.int x1), some (.int x2), some (.int x3), some (.int x4), none, none], [], σ) (am_r S_m (fun q τ => q = some (.int r) ∧ τ = σ'))) (h : g_Mo_readOne_85 go x1 x2 x3 x4 σ = some (r, σ')) : am_A S_m M_Mo_readOne (85, [some (.ref 0), some (.int x1), some (.int x2), some (.int x3), some (.int x4), none, none], [], σ) (am_r S_m (fun q τ => q = some (.int r) ∧ τ = σ')) := by
  unfold g_Mo_readOne_85 at h
  refine a_iinc i_Mo_readOne_85 rfl rfl ?_
  refine a_goto i_Mo_readOne_88 ?_
  exact hgo h
def g_Mo_readOne_82 (go : Int32 → Int32 → Int32 → Int32 → am_S → Option (Int32 × am_S)) (x1 : Int32) (x2 : Int32) (x3 : Int32) (x4 : Int32) (y0 : Int32) (σ : am_S) : Option (Int32 × am_S) :=
  am_gd (z01 y0) <|
  g_Mo_readOne_85 go x1 x2 x3 x4 (am_fi σ 0 8 y0)
set_option maxHeartbeats 4000000 in
theorem t_Mo_readOne_82 {x1 : Int32} {x2 : Int32} {x3 : Int32} {x4 : Int32} {y0 : Int32} {σ σ' : am_S} {r : Int32} {go : Int32 → Int32 → Int32 → Int32 → am_S → Option (Int32 × am_S)} (hgo : ∀ {x1 : Int32} {x2 : Int32} {x3 : Int32} {x4 : Int32} {σ σ' : am_S} {r : Int32}, go x1 x2 x3 x4 σ = some (r, σ') → am_A S_m M_Mo_readOne (5, [some (.ref 0), some (.int x1), some (.int x2), some (.int x3), some (.int x4), none, none], [], σ) (am_r S_m (fun q τ => q = some (.int r) ∧ τ = σ'))) (h : g_Mo_readOne_82 go x1 x2 x3 x4 y0 σ = some (r, σ')) : am_A S_m M_Mo_readOne (82, [some (.ref 0), some (.int x1), some (.int x2), some (.int x3), some (.int x4), none, none], [.int y0, .ref 0], σ) (am_r S_m (fun q τ => q = some (.int r) ∧ τ = σ')) := by
  unfold g_Mo_readOne_82 at h
  obtain ⟨c1, h⟩ := gd_some h
  refine a_puti i_Mo_readOne_82 rfl (z01_or c1) ?_
  exact t_Mo_readOne_85 hgo h
def g_Mo_readOne_70 (go : Int32 → Int32 → Int32 → Int32 → am_S → Option (Int32 × am_S)) (x1 : Int32) (x2 : Int32) (x4 : Int32) (y0 : Int32) (σ : am_S) : Option (Int32 × am_S) :=
  if y0 = (-1) then
    g_Mo_readOne_82 go x1 x2 y0 x4 (1) σ
  else
    g_Mo_readOne_82 go x1 x2 y0 x4 (0) σ
set_option maxHeartbeats 4000000 in
theorem t_Mo_readOne_70 {x1 : Int32} {x2 : Int32} {x4 : Int32} {y0 : Int32} {σ σ' : am_S} {r : Int32} {go : Int32 → Int32 → Int32 → Int32 → am_S → Option (Int32 × am_S)} (hgo : ∀ {x1 : Int32} {x2 : Int32} {x3 : Int32} {x4 : Int32} {σ σ' : am_S} {r : Int32}, go x1 x2 x3 x4 σ = some (r, σ') → am_A S_m M_Mo_readOne (5, [some (.ref 0), some (.int x1), some (.int x2), some (.int x3), some (.int x4), none, none], [], σ) (am_r S_m (fun q τ => q = some (.int r) ∧ τ = σ'))) (h : g_Mo_readOne_70 go x1 x2 x4 y0 σ = some (r, σ')) : am_A S_m M_Mo_readOne (70, [some (.ref 0), some (.int x1), some (.int x2), none, some (.int x4), none, none], [.int y0], σ) (am_r S_m (fun q τ => q = some (.int r) ∧ τ = σ')) := by
  unfold g_Mo_readOne_70 at h
  refine a_istore_n i_Mo_readOne_70 rfl ?_
  refine a_aload_n i_Mo_readOne_71 rfl ?_
  refine a_iload_n i_Mo_readOne_72 rfl ?_
  refine a_iconst i_Mo_readOne_73 ?_
  by_cases c5 : y0 = (-1)
  · rw [if_pos c5] at h
    refine a_icf i_Mo_readOne_74 c5 ?_
    refine a_iconst i_Mo_readOne_77 ?_
    refine a_goto i_Mo_readOne_78 ?_
    exact t_Mo_readOne_82 hgo h
  · rw [if_neg c5] at h
    refine a_ict i_Mo_readOne_74 c5 ?_
    refine a_iconst i_Mo_readOne_81 ?_
    exact t_Mo_readOne_82 hgo h
def g_Mo_readOne_104 (y0 : Int32) (σ : am_S) : Option (Int32 × am_S) :=
  some (y0, σ)
set_option maxHeartbeats 4000000 in
theorem t_Mo_readOne_104 {y0 : Int32} {σ σ' : am_S} {r : Int32} (h : g_Mo_readOne_104 y0 σ = some (r, σ')) : am_A S_m M_Mo_readOne (104, [none, none, none, none, none, none, none], [.int y0], σ) (am_r S_m (fun q τ => q = some (.int r) ∧ τ = σ')) := by
  unfold g_Mo_readOne_104 at h
  exact am_ret_i ok_Mo_readOne rfl rfl (am_lf_i h)
def g_Mo_readOne_91 (x3 : Int32) (σ : am_S) : Option (Int32 × am_S) :=
  if (σ.1.1 0 8) = 0 then
    g_Mo_readOne_104 x3 σ
  else
    g_Mo_readOne_104 (-2) σ
set_option maxHeartbeats 4000000 in
theorem t_Mo_readOne_91 {x3 : Int32} {σ σ' : am_S} {r : Int32} (h : g_Mo_readOne_91 x3 σ = some (r, σ')) : am_A S_m M_Mo_readOne (91, [some (.ref 0), none, none, some (.int x3), none, none, none], [], σ) (am_r S_m (fun q τ => q = some (.int r) ∧ τ = σ')) := by
  unfold g_Mo_readOne_91 at h
  refine a_aload_n i_Mo_readOne_91 rfl ?_
  refine a_get (v := .int (σ.1.1 0 8)) i_Mo_readOne_92 rfl rfl ?_
  by_cases c3 : (σ.1.1 0 8) = 0
  · rw [if_pos c3] at h
    refine a_ift i_Mo_readOne_95 c3 ?_
    refine a_iload_n i_Mo_readOne_103 rfl ?_
    exact am_wk (t_Mo_readOne_104 h) ⟨Or.inl rfl, Or.inl rfl, Or.inl rfl, Or.inl rfl, Or.inl rfl, Or.inl rfl, Or.inl rfl, trivial⟩
  · rw [if_neg c3] at h
    refine a_iff i_Mo_readOne_95 c3 ?_
    refine a_bipush i_Mo_readOne_98 ?_
    refine a_goto i_Mo_readOne_100 ?_
    exact am_wk (t_Mo_readOne_104 h) ⟨Or.inl rfl, Or.inl rfl, Or.inl rfl, Or.inl rfl, Or.inl rfl, Or.inl rfl, Or.inl rfl, trivial⟩
def g_Mo_readOne_5 : Nat → Int32 → Int32 → Int32 → Int32 → am_S → Option (Int32 × am_S)
  | 0, _, _, _, _, _ => none
  | n + 1, x1, x2, x3, x4, σ =>
  if x4 < x1 then
    if (σ.1.1 0 8) = 0 then
      am_gd (inb x4 6) <|
      am_bd (g_Mo_readValue (σ.2.1 29 x4.toNatClampNeg) (0) σ) fun v13 σ13 =>
      if x4 = x2 then
        if (σ13.1.1 0 8) = 0 then
          am_gd (inb x4 6) <|
          if (σ13.2.1 29 x4.toNatClampNeg) = 8 then
            g_Mo_readOne_70 (g_Mo_readOne_5 n) x1 x2 x4 v13.toInt32 σ13
          else
            am_bd (g_Mo_textIn (3) v13 σ13) fun v30 σ30 =>
            g_Mo_readOne_70 (g_Mo_readOne_5 n) x1 x2 x4 v30 σ30
        else
          g_Mo_readOne_85 (g_Mo_readOne_5 n) x1 x2 x3 x4 σ13
      else
        g_Mo_readOne_85 (g_Mo_readOne_5 n) x1 x2 x3 x4 σ13
    else
      g_Mo_readOne_91 x3 σ
  else
    g_Mo_readOne_91 x3 σ
set_option maxHeartbeats 4000000 in
theorem t_Mo_readOne_5 : ∀ (n : Nat) {x1 : Int32} {x2 : Int32} {x3 : Int32} {x4 : Int32} {σ σ' : am_S} {r : Int32} (h : g_Mo_readOne_5 n x1 x2 x3 x4 σ = some (r, σ')), am_A S_m M_Mo_readOne (5, [some (.ref 0), some (.int x1), some (.int x2), some (.int x3), some (.int x4), none, none], [], σ) (am_r S_m (fun q τ => q = some (.int r) ∧ τ = σ')) := by
  intro n
  induction n with
  | zero =>
    intro x1 x2 x3 x4 σ σ' r h
    cases h
  | succ n ih =>
  intro x1 x2 x3 x4 σ σ' r h
  unfold g_Mo_readOne_5 at h
  refine a_iload i_Mo_readOne_5 rfl ?_
  refine a_iload_n i_Mo_readOne_7 rfl ?_
  by_cases c3 : x4 < x1
  · rw [if_pos c3] at h
    refine a_icf i_Mo_readOne_8 (Int32.not_le.mpr c3) ?_
    refine a_aload_n i_Mo_readOne_11 rfl ?_
    refine a_get (v := .int (σ.1.1 0 8)) i_Mo_readOne_12 rfl rfl ?_
    by_cases c6 : (σ.1.1 0 8) = 0
    · rw [if_pos c6] at h
      refine a_iff i_Mo_readOne_15 c6 ?_
      refine a_aload_n i_Mo_readOne_18 rfl ?_
      refine a_aload_n i_Mo_readOne_19 rfl ?_
      refine a_get (v := .ref 29) i_Mo_readOne_20 rfl rfl ?_
      refine a_iload i_Mo_readOne_23 rfl ?_
      obtain ⟨c11, h⟩ := gd_some h
      refine a_ial (n := 6) i_Mo_readOne_25 (by decide) rfl rfl (inb_in c11) ?_
      refine a_lconst i_Mo_readOne_26 ?_
      obtain ⟨v13, σ13, e13, h⟩ := am_bd_some h
      refine am_cvd (rest := []) [.int (σ.2.1 29 x4.toNatClampNeg), .long 0] c_Mo_readOne_27 ⟨by decide, _, rfl⟩ rfl (Nat.le_of_ble_eq_true rfl) (t_Mo_readValue e13) ?_
      refine a_lstore i_Mo_readOne_30 rfl ?_
      refine a_iload i_Mo_readOne_32 rfl ?_
      refine a_iload_n i_Mo_readOne_34 rfl ?_
      by_cases c17 : x4 = x2
      · rw [if_pos c17] at h
        refine a_icf i_Mo_readOne_35 c17 ?_
        refine a_aload_n i_Mo_readOne_38 rfl ?_
        refine a_get (v := .int (σ13.1.1 0 8)) i_Mo_readOne_39 rfl rfl ?_
        by_cases c20 : (σ13.1.1 0 8) = 0
        · rw [if_pos c20] at h
          refine a_iff i_Mo_readOne_42 c20 ?_
          refine a_aload_n i_Mo_readOne_45 rfl ?_
          refine a_get (v := .ref 29) i_Mo_readOne_46 rfl rfl ?_
          refine a_iload i_Mo_readOne_49 rfl ?_
          obtain ⟨c24, h⟩ := gd_some h
          refine a_ial (n := 6) i_Mo_readOne_51 (by decide) rfl rfl (inb_in c24) ?_
          refine a_bipush i_Mo_readOne_52 ?_
          by_cases c26 : (σ13.2.1 29 x4.toNatClampNeg) = 8
          · rw [if_pos c26] at h
            refine a_icf i_Mo_readOne_54 c26 ?_
            refine a_lload i_Mo_readOne_57 rfl ?_
            refine a_l2i i_Mo_readOne_59 ?_
            refine a_goto i_Mo_readOne_60 ?_
            exact am_wk (t_Mo_readOne_70 (fun h => ih h) h) ⟨Or.inr rfl, Or.inr rfl, Or.inr rfl, Or.inl rfl, Or.inr rfl, Or.inl rfl, Or.inl rfl, trivial⟩
          · rw [if_neg c26] at h
            refine a_ict i_Mo_readOne_54 c26 ?_
            refine a_aload_n i_Mo_readOne_63 rfl ?_
            refine a_iconst i_Mo_readOne_64 ?_
            refine a_lload i_Mo_readOne_65 rfl ?_
            obtain ⟨v30, σ30, e30, h⟩ := am_bd_some h
            refine am_cvd (rest := []) [.int 3, .long v13] c_Mo_readOne_67 ⟨by decide, _, rfl⟩ rfl (Nat.le_of_ble_eq_true rfl) (t_Mo_textIn e30) ?_
            exact am_wk (t_Mo_readOne_70 (fun h => ih h) h) ⟨Or.inr rfl, Or.inr rfl, Or.inr rfl, Or.inl rfl, Or.inr rfl, Or.inl rfl, Or.inl rfl, trivial⟩
        · rw [if_neg c20] at h
          refine a_ift i_Mo_readOne_42 c20 ?_
          exact am_wk (t_Mo_readOne_85 (fun h => ih h) h) ⟨Or.inr rfl, Or.inr rfl, Or.inr rfl, Or.inr rfl, Or.inr rfl, Or.inl rfl, Or.inl rfl, trivial⟩
      · rw [if_neg c17] at h
        refine a_ict i_Mo_readOne_35 c17 ?_
        exact am_wk (t_Mo_readOne_85 (fun h => ih h) h) ⟨Or.inr rfl, Or.inr rfl, Or.inr rfl, Or.inr rfl, Or.inr rfl, Or.inl rfl, Or.inl rfl, trivial⟩
    · rw [if_neg c6] at h
      refine a_ift i_Mo_readOne_15 c6 ?_
      exact am_wk (t_Mo_readOne_91 h) ⟨Or.inr rfl, Or.inl rfl, Or.inl rfl, Or.inr rfl, Or.inl rfl, Or.inl rfl, Or.inl rfl, trivial⟩
  · rw [if_neg c3] at h
    refine a_ict i_Mo_readOne_8 (Int32.not_lt.mp c3) ?_
    exact am_wk (t_Mo_readOne_91 h) ⟨Or.inr rfl, Or.inl rfl, Or.inl rfl, Or.inr rfl, Or.inl rfl, Or.inl rfl, Or.inl rfl, trivial⟩
def g_Mo_readOne (x1 : Int32) (x2 : Int32) (σ : am_S) : Option (Int32 × am_S) :=
  g_Mo_readOne_5 4000 x1 x2 (-1) (0) σ
set_option maxHeartbeats 4000000 in
theorem t_Mo_readOne_0 {x1 : Int32} {x2 : Int32} {σ σ' : am_S} {r : Int32} (h : g_Mo_readOne x1 x2 σ = some (r, σ')) : am_A S_m M_Mo_readOne (0, [some (.ref 0), some (.int x1), some (.int x2), none, none, none, none], [], σ) (am_r S_m (fun q τ => q = some (.int r) ∧ τ = σ')) := by
  unfold g_Mo_readOne at h
  refine a_iconst i_Mo_readOne_0 ?_
  refine a_istore_n i_Mo_readOne_1 rfl ?_
  refine a_iconst i_Mo_readOne_2 ?_
  refine a_istore i_Mo_readOne_3 rfl ?_
  exact t_Mo_readOne_5 4000 h
theorem t_Mo_readOne {x1 : Int32} {x2 : Int32} {σ σ' : am_S} {r : Int32} (h : g_Mo_readOne x1 x2 σ = some (r, σ')) : am_Mt S_m M_Mo_readOne [.ref 0, .int x1, .int x2] σ (fun q τ => q = some (.int r) ∧ τ = σ') :=
  am_M_of ok_Mo_readOne (Nat.le_of_ble_eq_true rfl) (t_Mo_readOne_0 h)
def g_Mo_readTable_69 (σ : am_S) : Option (Int32 × am_S) :=
  some (0, σ)
set_option maxHeartbeats 4000000 in
theorem t_Mo_readTable_69 {σ σ' : am_S} {r : Int32} (h : g_Mo_readTable_69 σ = some (r, σ')) : am_A S_m M_Mo_readTable (69, [none, none, none, none, none, none, none, none, none, none], [], σ) (am_r S_m (fun q τ => q = some (.int r) ∧ τ = σ')) := by
  unfold g_Mo_readTable_69 at h
  refine a_iconst i_Mo_readTable_69 ?_
  exact am_ret_z ok_Mo_readTable rfl rfl (Or.inl rfl) (am_lf_i h)
def g_Mo_readTable_155 (go : Int32 → Int32 → Int32 → Int32 → Int64 → Int64 → am_S → Option (Int32 × am_S)) (x1 : Int32) (x2 : Int32) (x3 : Int32) (x4 : Int32) (x5 : Int64) (x7 : Int64) (σ : am_S) : Option (Int32 × am_S) :=
  go x1 x2 x3 x4 x5 (x7 + 1) σ
set_option maxHeartbeats 4000000 in
theorem t_Mo_readTable_155 {x1 : Int32} {x2 : Int32} {x3 : Int32} {x4 : Int32} {x5 : Int64} {x7 : Int64} {σ σ' : am_S} {r : Int32} {go : Int32 → Int32 → Int32 → Int32 → Int64 → Int64 → am_S → Option (Int32 × am_S)} (hgo : ∀ {x1 : Int32} {x2 : Int32} {x3 : Int32} {x4 : Int32} {x5 : Int64} {x7 : Int64} {σ σ' : am_S} {r : Int32}, go x1 x2 x3 x4 x5 x7 σ = some (r, σ') → am_A S_m M_Mo_readTable (87, [some (.ref 0), some (.int x1), some (.int x2), some (.int x3), some (.int x4), some (.long x5), none, some (.long x7), none, none], [], σ) (am_r S_m (fun q τ => q = some (.int r) ∧ τ = σ'))) (h : g_Mo_readTable_155 go x1 x2 x3 x4 x5 x7 σ = some (r, σ')) : am_A S_m M_Mo_readTable (155, [some (.ref 0), some (.int x1), some (.int x2), some (.int x3), some (.int x4), some (.long x5), none, some (.long x7), none, none], [], σ) (am_r S_m (fun q τ => q = some (.int r) ∧ τ = σ')) := by
  unfold g_Mo_readTable_155 at h
  refine a_lload i_Mo_readTable_155 rfl ?_
  refine a_lconst i_Mo_readTable_157 ?_
  refine a_ladd i_Mo_readTable_158 ?_
  refine a_lstore i_Mo_readTable_159 rfl ?_
  refine a_goto i_Mo_readTable_161 ?_
  exact hgo h
def g_Mo_readTable_118 (go : Int32 → Int32 → Int32 → Int32 → Int64 → Int64 → am_S → Option (Int32 × am_S)) (x1 : Int32) (x2 : Int32) (x3 : Int32) (x4 : Int32) (x5 : Int64) (x7 : Int64) (σ : am_S) : Option (Int32 × am_S) :=
  am_bd (g_Mo_readOne x3 x4 σ) fun v4 σ4 =>
  if v4 = (-2) then
    some (0, σ4)
  else
    if x2 = 0 then
      g_Mo_readTable_155 go x1 x2 x3 x4 x5 x7 σ4
    else
      am_gd (inb ((30 * x1) + x7.toInt32) 120) <|
      g_Mo_readTable_155 go x1 x2 x3 x4 x5 x7 (am_ai σ4 26 ((30 * x1) + x7.toInt32).toNatClampNeg v4)
set_option maxHeartbeats 4000000 in
theorem t_Mo_readTable_118 {x1 : Int32} {x2 : Int32} {x3 : Int32} {x4 : Int32} {x5 : Int64} {x7 : Int64} {σ σ' : am_S} {r : Int32} {go : Int32 → Int32 → Int32 → Int32 → Int64 → Int64 → am_S → Option (Int32 × am_S)} (hgo : ∀ {x1 : Int32} {x2 : Int32} {x3 : Int32} {x4 : Int32} {x5 : Int64} {x7 : Int64} {σ σ' : am_S} {r : Int32}, go x1 x2 x3 x4 x5 x7 σ = some (r, σ') → am_A S_m M_Mo_readTable (87, [some (.ref 0), some (.int x1), some (.int x2), some (.int x3), some (.int x4), some (.long x5), none, some (.long x7), none, none], [], σ) (am_r S_m (fun q τ => q = some (.int r) ∧ τ = σ'))) (h : g_Mo_readTable_118 go x1 x2 x3 x4 x5 x7 σ = some (r, σ')) : am_A S_m M_Mo_readTable (118, [some (.ref 0), some (.int x1), some (.int x2), some (.int x3), some (.int x4), some (.long x5), none, some (.long x7), none, none], [], σ) (am_r S_m (fun q τ => q = some (.int r) ∧ τ = σ')) := by
  unfold g_Mo_readTable_118 at h
  refine a_aload_n i_Mo_readTable_118 rfl ?_
  refine a_iload_n i_Mo_readTable_119 rfl ?_
  refine a_iload i_Mo_readTable_120 rfl ?_
  obtain ⟨v4, σ4, e4, h⟩ := am_bd_some h
  refine am_cvd (rest := []) [.int x3, .int x4] c_Mo_readTable_122 ⟨by decide, _, rfl⟩ rfl (Nat.le_of_ble_eq_true rfl) (t_Mo_readOne e4) ?_
  refine a_istore i_Mo_readTable_125 rfl ?_
  refine a_iload i_Mo_readTable_127 rfl ?_
  refine a_bipush i_Mo_readTable_129 ?_
  by_cases c8 : v4 = (-2)
  · rw [if_pos c8] at h
    refine a_icf i_Mo_readTable_131 c8 ?_
    refine a_iconst i_Mo_readTable_134 ?_
    exact am_ret_z ok_Mo_readTable rfl rfl (Or.inl rfl) (am_lf_i h)
  · rw [if_neg c8] at h
    refine a_ict i_Mo_readTable_131 c8 ?_
    refine a_iload_n i_Mo_readTable_136 rfl ?_
    by_cases c10 : x2 = 0
    · rw [if_pos c10] at h
      refine a_ift i_Mo_readTable_137 c10 ?_
      exact am_wk (t_Mo_readTable_155 hgo h) ⟨Or.inr rfl, Or.inr rfl, Or.inr rfl, Or.inr rfl, Or.inr rfl, Or.inr rfl, Or.inl rfl, Or.inr rfl, Or.inl rfl, Or.inl rfl, trivial⟩
    · rw [if_neg c10] at h
      refine a_iff i_Mo_readTable_137 c10 ?_
      refine a_aload_n i_Mo_readTable_140 rfl ?_
      refine a_get (v := .ref 26) i_Mo_readTable_141 rfl rfl ?_
      refine a_bipush i_Mo_readTable_144 ?_
      refine a_iload_n i_Mo_readTable_146 rfl ?_
      refine a_imul i_Mo_readTable_147 ?_
      refine a_lload i_Mo_readTable_148 rfl ?_
      refine a_l2i i_Mo_readTable_150 ?_
      refine a_iadd i_Mo_readTable_151 ?_
      refine a_iload i_Mo_readTable_152 rfl ?_
      obtain ⟨c20, h⟩ := gd_some h
      refine a_ias (n := 120) i_Mo_readTable_154 rfl rfl (inb_in c20) ?_
      exact am_wk (t_Mo_readTable_155 hgo h) ⟨Or.inr rfl, Or.inr rfl, Or.inr rfl, Or.inr rfl, Or.inr rfl, Or.inr rfl, Or.inl rfl, Or.inr rfl, Or.inl rfl, Or.inl rfl, trivial⟩
def g_Mo_readTable_164 (σ : am_S) : Option (Int32 × am_S) :=
  some (1, σ)
set_option maxHeartbeats 4000000 in
theorem t_Mo_readTable_164 {σ σ' : am_S} {r : Int32} (h : g_Mo_readTable_164 σ = some (r, σ')) : am_A S_m M_Mo_readTable (164, [none, none, none, none, none, none, none, none, none, none], [], σ) (am_r S_m (fun q τ => q = some (.int r) ∧ τ = σ')) := by
  unfold g_Mo_readTable_164 at h
  refine a_iconst i_Mo_readTable_164 ?_
  exact am_ret_z ok_Mo_readTable rfl rfl (Or.inr rfl) (am_lf_i h)
def g_Mo_readTable_106 (go : Int32 → Int32 → Int32 → Int32 → Int64 → Int64 → am_S → Option (Int32 × am_S)) (x1 : Int32) (x2 : Int32) (x3 : Int32) (x4 : Int32) (x5 : Int64) (x7 : Int64) (σ : am_S) : Option (Int32 × am_S) :=
  if x2 = 0 then
    g_Mo_readTable_164 σ
  else
    if (lg_cmp x7 x5) < 0 then
      g_Mo_readTable_118 go x1 x2 x3 x4 x5 x7 σ
    else
      g_Mo_readTable_164 σ
set_option maxHeartbeats 4000000 in
theorem t_Mo_readTable_106 {x1 : Int32} {x2 : Int32} {x3 : Int32} {x4 : Int32} {x5 : Int64} {x7 : Int64} {σ σ' : am_S} {r : Int32} {go : Int32 → Int32 → Int32 → Int32 → Int64 → Int64 → am_S → Option (Int32 × am_S)} (hgo : ∀ {x1 : Int32} {x2 : Int32} {x3 : Int32} {x4 : Int32} {x5 : Int64} {x7 : Int64} {σ σ' : am_S} {r : Int32}, go x1 x2 x3 x4 x5 x7 σ = some (r, σ') → am_A S_m M_Mo_readTable (87, [some (.ref 0), some (.int x1), some (.int x2), some (.int x3), some (.int x4), some (.long x5), none, some (.long x7), none, none], [], σ) (am_r S_m (fun q τ => q = some (.int r) ∧ τ = σ'))) (h : g_Mo_readTable_106 go x1 x2 x3 x4 x5 x7 σ = some (r, σ')) : am_A S_m M_Mo_readTable (106, [some (.ref 0), some (.int x1), some (.int x2), some (.int x3), some (.int x4), some (.long x5), none, some (.long x7), none, none], [], σ) (am_r S_m (fun q τ => q = some (.int r) ∧ τ = σ')) := by
  unfold g_Mo_readTable_106 at h
  refine a_iload_n i_Mo_readTable_106 rfl ?_
  by_cases c2 : x2 = 0
  · rw [if_pos c2] at h
    refine a_ift i_Mo_readTable_107 c2 ?_
    exact am_wk (t_Mo_readTable_164 h) ⟨Or.inl rfl, Or.inl rfl, Or.inl rfl, Or.inl rfl, Or.inl rfl, Or.inl rfl, Or.inl rfl, Or.inl rfl, Or.inl rfl, Or.inl rfl, trivial⟩
  · rw [if_neg c2] at h
    refine a_iff i_Mo_readTable_107 c2 ?_
    refine a_lload i_Mo_readTable_110 rfl ?_
    refine a_lload i_Mo_readTable_112 rfl ?_
    refine a_lcmp i_Mo_readTable_114 ?_
    by_cases c6 : (lg_cmp x7 x5) < 0
    · rw [if_pos c6] at h
      refine a_iff i_Mo_readTable_115 (Int32.not_le.mpr c6) ?_
      exact t_Mo_readTable_118 hgo h
    · rw [if_neg c6] at h
      refine a_ift i_Mo_readTable_115 (Int32.not_lt.mp c6) ?_
      exact am_wk (t_Mo_readTable_164 h) ⟨Or.inl rfl, Or.inl rfl, Or.inl rfl, Or.inl rfl, Or.inl rfl, Or.inl rfl, Or.inl rfl, Or.inl rfl, Or.inl rfl, Or.inl rfl, trivial⟩
def g_Mo_readTable_102 (go : Int32 → Int32 → Int32 → Int32 → Int64 → Int64 → am_S → Option (Int32 × am_S)) (x1 : Int32) (x2 : Int32) (x3 : Int32) (x4 : Int32) (x5 : Int64) (x7 : Int64) (σ : am_S) : Option (Int32 × am_S) :=
  if 0 < x3 then
    g_Mo_readTable_118 go x1 x2 x3 x4 x5 x7 σ
  else
    g_Mo_readTable_106 go x1 x2 x3 x4 x5 x7 σ
set_option maxHeartbeats 4000000 in
theorem t_Mo_readTable_102 {x1 : Int32} {x2 : Int32} {x3 : Int32} {x4 : Int32} {x5 : Int64} {x7 : Int64} {σ σ' : am_S} {r : Int32} {go : Int32 → Int32 → Int32 → Int32 → Int64 → Int64 → am_S → Option (Int32 × am_S)} (hgo : ∀ {x1 : Int32} {x2 : Int32} {x3 : Int32} {x4 : Int32} {x5 : Int64} {x7 : Int64} {σ σ' : am_S} {r : Int32}, go x1 x2 x3 x4 x5 x7 σ = some (r, σ') → am_A S_m M_Mo_readTable (87, [some (.ref 0), some (.int x1), some (.int x2), some (.int x3), some (.int x4), some (.long x5), none, some (.long x7), none, none], [], σ) (am_r S_m (fun q τ => q = some (.int r) ∧ τ = σ'))) (h : g_Mo_readTable_102 go x1 x2 x3 x4 x5 x7 σ = some (r, σ')) : am_A S_m M_Mo_readTable (102, [some (.ref 0), some (.int x1), some (.int x2), some (.int x3), some (.int x4), some (.long x5), none, some (.long x7), none, none], [], σ) (am_r S_m (fun q τ => q = some (.int r) ∧ τ = σ')) := by
  unfold g_Mo_readTable_102 at h
  refine a_iload_n i_Mo_readTable_102 rfl ?_
  by_cases c2 : 0 < x3
  · rw [if_pos c2] at h
    refine a_ift i_Mo_readTable_103 c2 ?_
    exact t_Mo_readTable_118 hgo h
  · rw [if_neg c2] at h
    refine a_iff i_Mo_readTable_103 c2 ?_
    exact t_Mo_readTable_106 hgo h
def g_Mo_readTable_87 : Nat → Int32 → Int32 → Int32 → Int32 → Int64 → Int64 → am_S → Option (Int32 × am_S)
  | 0, _, _, _, _, _, _, _ => none
  | n + 1, x1, x2, x3, x4, x5, x7, σ =>
  if (lg_cmp x7 x5) < 0 then
    g_Mo_readTable_102 (g_Mo_readTable_87 n) x1 x2 x3 x4 x5 x7 σ
  else
    if (lg_cmp x5 0) < 0 then
      g_Mo_readTable_102 (g_Mo_readTable_87 n) x1 x2 x3 x4 x5 x7 σ
    else
      g_Mo_readTable_106 (g_Mo_readTable_87 n) x1 x2 x3 x4 x5 x7 σ
set_option maxHeartbeats 4000000 in
theorem t_Mo_readTable_87 : ∀ (n : Nat) {x1 : Int32} {x2 : Int32} {x3 : Int32} {x4 : Int32} {x5 : Int64} {x7 : Int64} {σ σ' : am_S} {r : Int32} (h : g_Mo_readTable_87 n x1 x2 x3 x4 x5 x7 σ = some (r, σ')), am_A S_m M_Mo_readTable (87, [some (.ref 0), some (.int x1), some (.int x2), some (.int x3), some (.int x4), some (.long x5), none, some (.long x7), none, none], [], σ) (am_r S_m (fun q τ => q = some (.int r) ∧ τ = σ')) := by
  intro n
  induction n with
  | zero =>
    intro x1 x2 x3 x4 x5 x7 σ σ' r h
    cases h
  | succ n ih =>
  intro x1 x2 x3 x4 x5 x7 σ σ' r h
  unfold g_Mo_readTable_87 at h
  refine a_lload i_Mo_readTable_87 rfl ?_
  refine a_lload i_Mo_readTable_89 rfl ?_
  refine a_lcmp i_Mo_readTable_91 ?_
  by_cases c4 : (lg_cmp x7 x5) < 0
  · rw [if_pos c4] at h
    refine a_ift i_Mo_readTable_92 c4 ?_
    exact t_Mo_readTable_102 (fun h => ih h) h
  · rw [if_neg c4] at h
    refine a_iff i_Mo_readTable_92 c4 ?_
    refine a_lload i_Mo_readTable_95 rfl ?_
    refine a_lconst i_Mo_readTable_97 ?_
    refine a_lcmp i_Mo_readTable_98 ?_
    by_cases c8 : (lg_cmp x5 0) < 0
    · rw [if_pos c8] at h
      refine a_iff i_Mo_readTable_99 (Int32.not_le.mpr c8) ?_
      exact t_Mo_readTable_102 (fun h => ih h) h
    · rw [if_neg c8] at h
      refine a_ift i_Mo_readTable_99 (Int32.not_lt.mp c8) ?_
      exact t_Mo_readTable_106 (fun h => ih h) h
def g_Mo_readTable_84 (x1 : Int32) (x2 : Int32) (x3 : Int32) (x4 : Int32) (x5 : Int64) (σ : am_S) : Option (Int32 × am_S) :=
  g_Mo_readTable_87 4000 x1 x2 x3 x4 x5 (0) σ
set_option maxHeartbeats 4000000 in
theorem t_Mo_readTable_84 {x1 : Int32} {x2 : Int32} {x3 : Int32} {x4 : Int32} {x5 : Int64} {σ σ' : am_S} {r : Int32} (h : g_Mo_readTable_84 x1 x2 x3 x4 x5 σ = some (r, σ')) : am_A S_m M_Mo_readTable (84, [some (.ref 0), some (.int x1), some (.int x2), some (.int x3), some (.int x4), some (.long x5), none, none, none, none], [], σ) (am_r S_m (fun q τ => q = some (.int r) ∧ τ = σ')) := by
  unfold g_Mo_readTable_84 at h
  refine a_lconst i_Mo_readTable_84 ?_
  refine a_lstore i_Mo_readTable_85 rfl ?_
  exact t_Mo_readTable_87 4000 h
def g_Mo_readTable_71 (x1 : Int32) (x2 : Int32) (x3 : Int32) (x4 : Int32) (x5 : Int64) (σ : am_S) : Option (Int32 × am_S) :=
  if x2 = 0 then
    g_Mo_readTable_84 x1 x2 x3 x4 x5 σ
  else
    am_gd (inb x1 4) <|
    g_Mo_readTable_84 x1 x2 x3 x4 x5 (am_ai σ 25 x1.toNatClampNeg x5.toInt32)
set_option maxHeartbeats 4000000 in
theorem t_Mo_readTable_71 {x1 : Int32} {x2 : Int32} {x3 : Int32} {x4 : Int32} {x5 : Int64} {σ σ' : am_S} {r : Int32} (h : g_Mo_readTable_71 x1 x2 x3 x4 x5 σ = some (r, σ')) : am_A S_m M_Mo_readTable (71, [some (.ref 0), some (.int x1), some (.int x2), some (.int x3), some (.int x4), some (.long x5), none, none, none, none], [], σ) (am_r S_m (fun q τ => q = some (.int r) ∧ τ = σ')) := by
  unfold g_Mo_readTable_71 at h
  refine a_iload_n i_Mo_readTable_71 rfl ?_
  by_cases c2 : x2 = 0
  · rw [if_pos c2] at h
    refine a_ift i_Mo_readTable_72 c2 ?_
    exact t_Mo_readTable_84 h
  · rw [if_neg c2] at h
    refine a_iff i_Mo_readTable_72 c2 ?_
    refine a_aload_n i_Mo_readTable_75 rfl ?_
    refine a_get (v := .ref 25) i_Mo_readTable_76 rfl rfl ?_
    refine a_iload_n i_Mo_readTable_79 rfl ?_
    refine a_lload i_Mo_readTable_80 rfl ?_
    refine a_l2i i_Mo_readTable_82 ?_
    obtain ⟨c8, h⟩ := gd_some h
    refine a_ias (n := 4) i_Mo_readTable_83 rfl rfl (inb_in c8) ?_
    exact t_Mo_readTable_84 h
def g_Mo_readTable_30 (x1 : Int32) (x2 : Int32) (x3 : Int32) (y0 : Int32) (σ : am_S) : Option (Int32 × am_S) :=
  am_bd (g_Mo_leb (0) σ) fun v4 σ4 =>
  if y0 = (-2) then
    g_Mo_readTable_69 σ4
  else
    if (σ4.1.1 0 8) = 0 then
      if x2 = 0 then
        g_Mo_readTable_71 x1 x2 x3 y0 v4 σ4
      else
        am_bd (g_Mo_in v4 (0) (30) σ4) fun v17 σ17 =>
        if v17 = 0 then
          g_Mo_readTable_69 σ17
        else
          g_Mo_readTable_71 x1 x2 x3 y0 v4 σ17
    else
      g_Mo_readTable_69 σ4
set_option maxHeartbeats 4000000 in
theorem t_Mo_readTable_30 {x1 : Int32} {x2 : Int32} {x3 : Int32} {y0 : Int32} {σ σ' : am_S} {r : Int32} (h : g_Mo_readTable_30 x1 x2 x3 y0 σ = some (r, σ')) : am_A S_m M_Mo_readTable (30, [some (.ref 0), some (.int x1), some (.int x2), some (.int x3), none, none, none, none, none, none], [.int y0], σ) (am_r S_m (fun q τ => q = some (.int r) ∧ τ = σ')) := by
  unfold g_Mo_readTable_30 at h
  refine a_istore i_Mo_readTable_30 rfl ?_
  refine a_aload_n i_Mo_readTable_32 rfl ?_
  refine a_iconst i_Mo_readTable_33 ?_
  obtain ⟨v4, σ4, e4, h⟩ := am_bd_some h
  refine am_cvd (rest := []) [.int 0] c_Mo_readTable_34 ⟨by decide, _, rfl⟩ rfl (Nat.le_of_ble_eq_true rfl) (t_Mo_leb e4) ?_
  refine a_lstore i_Mo_readTable_37 rfl ?_
  refine a_iload i_Mo_readTable_39 rfl ?_
  refine a_bipush i_Mo_readTable_41 ?_
  by_cases c8 : y0 = (-2)
  · rw [if_pos c8] at h
    refine a_ict i_Mo_readTable_43 c8 ?_
    exact am_wk (t_Mo_readTable_69 h) ⟨Or.inl rfl, Or.inl rfl, Or.inl rfl, Or.inl rfl, Or.inl rfl, Or.inl rfl, Or.inl rfl, Or.inl rfl, Or.inl rfl, Or.inl rfl, trivial⟩
  · rw [if_neg c8] at h
    refine a_icf i_Mo_readTable_43 c8 ?_
    refine a_aload_n i_Mo_readTable_46 rfl ?_
    refine a_get (v := .int (σ4.1.1 0 8)) i_Mo_readTable_47 rfl rfl ?_
    by_cases c11 : (σ4.1.1 0 8) = 0
    · rw [if_pos c11] at h
      refine a_iff i_Mo_readTable_50 c11 ?_
      refine a_iload_n i_Mo_readTable_53 rfl ?_
      by_cases c13 : x2 = 0
      · rw [if_pos c13] at h
        refine a_ift i_Mo_readTable_54 c13 ?_
        exact t_Mo_readTable_71 h
      · rw [if_neg c13] at h
        refine a_iff i_Mo_readTable_54 c13 ?_
        refine a_lload i_Mo_readTable_57 rfl ?_
        refine a_lconst i_Mo_readTable_59 ?_
        refine a_ldc2 i_Mo_readTable_60 ?_
        obtain ⟨v17, σ17, e17, h⟩ := am_bd_some h
        refine am_csd (rest := []) [.long v4, .long 0, .long 30] c_Mo_readTable_63 rfl (Nat.le_of_ble_eq_true rfl) (t_Mo_in e17) ?_
        by_cases c18 : v17 = 0
        · rw [if_pos c18] at h
          refine a_iff i_Mo_readTable_66 c18 ?_
          exact am_wk (t_Mo_readTable_69 h) ⟨Or.inl rfl, Or.inl rfl, Or.inl rfl, Or.inl rfl, Or.inl rfl, Or.inl rfl, Or.inl rfl, Or.inl rfl, Or.inl rfl, Or.inl rfl, trivial⟩
        · rw [if_neg c18] at h
          refine a_ift i_Mo_readTable_66 c18 ?_
          exact t_Mo_readTable_71 h
    · rw [if_neg c11] at h
      refine a_ift i_Mo_readTable_50 c11 ?_
      exact am_wk (t_Mo_readTable_69 h) ⟨Or.inl rfl, Or.inl rfl, Or.inl rfl, Or.inl rfl, Or.inl rfl, Or.inl rfl, Or.inl rfl, Or.inl rfl, Or.inl rfl, Or.inl rfl, trivial⟩
def g_Mo_readTable_20 (x1 : Int32) (x2 : Int32) (x3 : Int32) (σ : am_S) : Option (Int32 × am_S) :=
  g_Mo_readTable_30 x1 x2 x3 (-2) σ
set_option maxHeartbeats 4000000 in
theorem t_Mo_readTable_20 {x1 : Int32} {x2 : Int32} {x3 : Int32} {σ σ' : am_S} {r : Int32} (h : g_Mo_readTable_20 x1 x2 x3 σ = some (r, σ')) : am_A S_m M_Mo_readTable (20, [some (.ref 0), some (.int x1), some (.int x2), some (.int x3), none, none, none, none, none, none], [], σ) (am_r S_m (fun q τ => q = some (.int r) ∧ τ = σ')) := by
  unfold g_Mo_readTable_20 at h
  refine a_bipush i_Mo_readTable_20 ?_
  refine a_goto i_Mo_readTable_22 ?_
  exact t_Mo_readTable_30 h
def g_Mo_readTable (x1 : Int32) (x2 : Int32) (σ : am_S) : Option (Int32 × am_S) :=
  am_bd (g_Mo_u (1) σ) fun v3 σ3 =>
  if (σ3.1.1 0 8) = 0 then
    if 6 < v3.toInt32 then
      g_Mo_readTable_20 x1 x2 v3.toInt32 σ3
    else
      am_bd (g_Mo_readWhats v3.toInt32 σ3) fun v14 σ14 =>
      g_Mo_readTable_30 x1 x2 v3.toInt32 v14 σ14
  else
    g_Mo_readTable_20 x1 x2 v3.toInt32 σ3
set_option maxHeartbeats 4000000 in
theorem t_Mo_readTable_0 {x1 : Int32} {x2 : Int32} {σ σ' : am_S} {r : Int32} (h : g_Mo_readTable x1 x2 σ = some (r, σ')) : am_A S_m M_Mo_readTable (0, [some (.ref 0), some (.int x1), some (.int x2), none, none, none, none, none, none, none], [], σ) (am_r S_m (fun q τ => q = some (.int r) ∧ τ = σ')) := by
  unfold g_Mo_readTable at h
  refine a_aload_n i_Mo_readTable_0 rfl ?_
  refine a_iconst i_Mo_readTable_1 ?_
  obtain ⟨v3, σ3, e3, h⟩ := am_bd_some h
  refine am_cvd (rest := []) [.int 1] c_Mo_readTable_2 ⟨by decide, _, rfl⟩ rfl (Nat.le_of_ble_eq_true rfl) (t_Mo_u e3) ?_
  refine a_l2i i_Mo_readTable_5 ?_
  refine a_istore_n i_Mo_readTable_6 rfl ?_
  refine a_aload_n i_Mo_readTable_7 rfl ?_
  refine a_get (v := .int (σ3.1.1 0 8)) i_Mo_readTable_8 rfl rfl ?_
  by_cases c8 : (σ3.1.1 0 8) = 0
  · rw [if_pos c8] at h
    refine a_iff i_Mo_readTable_11 c8 ?_
    refine a_iload_n i_Mo_readTable_14 rfl ?_
    refine a_bipush i_Mo_readTable_15 ?_
    by_cases c11 : 6 < v3.toInt32
    · rw [if_pos c11] at h
      refine a_icf i_Mo_readTable_17 (Int32.not_le.mpr c11) ?_
      exact t_Mo_readTable_20 h
    · rw [if_neg c11] at h
      refine a_ict i_Mo_readTable_17 (Int32.not_lt.mp c11) ?_
      refine a_aload_n i_Mo_readTable_25 rfl ?_
      refine a_iload_n i_Mo_readTable_26 rfl ?_
      obtain ⟨v14, σ14, e14, h⟩ := am_bd_some h
      refine am_cvd (rest := []) [.int v3.toInt32] c_Mo_readTable_27 ⟨by decide, _, rfl⟩ rfl (Nat.le_of_ble_eq_true rfl) (t_Mo_readWhats e14) ?_
      exact t_Mo_readTable_30 h
  · rw [if_neg c8] at h
    refine a_ift i_Mo_readTable_11 c8 ?_
    exact t_Mo_readTable_20 h
theorem t_Mo_readTable {x1 : Int32} {x2 : Int32} {σ σ' : am_S} {r : Int32} (h : g_Mo_readTable x1 x2 σ = some (r, σ')) : am_Mt S_m M_Mo_readTable [.ref 0, .int x1, .int x2] σ (fun q τ => q = some (.int r) ∧ τ = σ') :=
  am_M_of ok_Mo_readTable (Nat.le_of_ble_eq_true rfl) (t_Mo_readTable_0 h)
def g_Mo_longCode_31 (σ : am_S) : Option (Int32 × am_S) :=
  some (0, σ)
set_option maxHeartbeats 4000000 in
theorem t_Mo_longCode_31 {σ σ' : am_S} {r : Int32} (h : g_Mo_longCode_31 σ = some (r, σ')) : am_A S_m M_Mo_longCode (31, [none, none, none, none, none, none], [], σ) (am_r S_m (fun q τ => q = some (.int r) ∧ τ = σ')) := by
  unfold g_Mo_longCode_31 at h
  refine a_iconst i_Mo_longCode_31 ?_
  exact am_ret_z ok_Mo_longCode rfl rfl (Or.inl rfl) (am_lf_i h)
def g_Mo_longCode_112 (x3 : Int32) (x5 : Int32) (σ : am_S) : Option (Int32 × am_S) :=
  am_gd (z01 x5) <|
  some (x5, am_fi σ 0 6 x3)
set_option maxHeartbeats 4000000 in
theorem t_Mo_longCode_112 {x3 : Int32} {x5 : Int32} {σ σ' : am_S} {r : Int32} (h : g_Mo_longCode_112 x3 x5 σ = some (r, σ')) : am_A S_m M_Mo_longCode (112, [some (.ref 0), none, none, some (.int x3), none, some (.int x5)], [], σ) (am_r S_m (fun q τ => q = some (.int r) ∧ τ = σ')) := by
  unfold g_Mo_longCode_112 at h
  refine a_aload_n i_Mo_longCode_112 rfl ?_
  refine a_iload_n i_Mo_longCode_113 rfl ?_
  refine a_puti i_Mo_longCode_114 rfl trivial ?_
  refine a_iload i_Mo_longCode_117 rfl ?_
  obtain ⟨c5, h⟩ := gd_some h
  exact am_ret_z ok_Mo_longCode rfl rfl (z01_or c5) (am_lf_i h)
def g_Mo_longCode_109 (x3 : Int32) (x5 : Int32) (y0 : Int64) (σ : am_S) : Option (Int32 × am_S) :=
  g_Mo_longCode_112 x3 x5 (am_fl σ 0 47 y0)
set_option maxHeartbeats 4000000 in
theorem t_Mo_longCode_109 {x3 : Int32} {x5 : Int32} {y0 : Int64} {σ σ' : am_S} {r : Int32} (h : g_Mo_longCode_109 x3 x5 y0 σ = some (r, σ')) : am_A S_m M_Mo_longCode (109, [some (.ref 0), none, none, some (.int x3), none, some (.int x5)], [.long y0, .ref 0], σ) (am_r S_m (fun q τ => q = some (.int r) ∧ τ = σ')) := by
  unfold g_Mo_longCode_109 at h
  refine a_putl i_Mo_longCode_109 rfl ?_
  exact t_Mo_longCode_112 h
def g_Mo_longCode_91 (x3 : Int32) (y0 : Int32) (σ : am_S) : Option (Int32 × am_S) :=
  if y0 = 0 then
    g_Mo_longCode_109 x3 y0 (0) σ
  else
    am_bd (g_Mo_u (8) σ) fun v7 σ7 =>
    g_Mo_longCode_109 x3 y0 v7 σ7
set_option maxHeartbeats 4000000 in
theorem t_Mo_longCode_91 {x3 : Int32} {y0 : Int32} {σ σ' : am_S} {r : Int32} (h : g_Mo_longCode_91 x3 y0 σ = some (r, σ')) : am_A S_m M_Mo_longCode (91, [some (.ref 0), none, none, some (.int x3), none, none], [.int y0], σ) (am_r S_m (fun q τ => q = some (.int r) ∧ τ = σ')) := by
  unfold g_Mo_longCode_91 at h
  refine a_istore i_Mo_longCode_91 rfl ?_
  refine a_aload_n i_Mo_longCode_93 rfl ?_
  refine a_iload i_Mo_longCode_94 rfl ?_
  by_cases c4 : y0 = 0
  · rw [if_pos c4] at h
    refine a_ift i_Mo_longCode_96 c4 ?_
    refine a_lconst i_Mo_longCode_108 ?_
    exact t_Mo_longCode_109 h
  · rw [if_neg c4] at h
    refine a_iff i_Mo_longCode_96 c4 ?_
    refine a_aload_n i_Mo_longCode_99 rfl ?_
    refine a_bipush i_Mo_longCode_100 ?_
    obtain ⟨v7, σ7, e7, h⟩ := am_bd_some h
    refine am_cvd (rest := [.ref 0]) [.int 8] c_Mo_longCode_102 ⟨by decide, _, rfl⟩ rfl (Nat.le_of_ble_eq_true rfl) (t_Mo_u e7) ?_
    refine a_goto i_Mo_longCode_105 ?_
    exact t_Mo_longCode_109 h
def g_Mo_longCode (σ : am_S) : Option (Int32 × am_S) :=
  am_bd (g_Mo_leb (0) σ) fun v3 σ3 =>
  if (σ3.1.1 0 8) = 0 then
    am_bd (g_Mo_in v3 (1) (((σ3.1.1 0 7) - (σ3.1.1 0 6)).toInt64) σ3) fun v16 σ16 =>
    if v16 = 0 then
      g_Mo_longCode_31 σ16
    else
      am_bd (g_Mo_u (1) σ16) fun v26 σ26 =>
      if v26.toInt32 = 1 then
        am_bd (g_Mo_row (1) σ26) fun v36 σ36 =>
        am_bd (g_Mo_begin σ36) fun _ σ39 =>
        g_Mo_longCode_112 ((σ16.1.1 0 6) + v3.toInt32) v36 σ39
      else
        if v26.toInt32 = 2 then
          if (lg_cmp v3 9) < 0 then
            g_Mo_longCode_91 ((σ16.1.1 0 6) + v3.toInt32) (0) σ26
          else
            g_Mo_longCode_91 ((σ16.1.1 0 6) + v3.toInt32) (1) σ26
        else
          g_Mo_longCode_112 ((σ16.1.1 0 6) + v3.toInt32) (1) σ26
  else
    g_Mo_longCode_31 σ3
set_option maxHeartbeats 4000000 in
theorem t_Mo_longCode_0 {σ σ' : am_S} {r : Int32} (h : g_Mo_longCode σ = some (r, σ')) : am_A S_m M_Mo_longCode (0, [some (.ref 0), none, none, none, none, none], [], σ) (am_r S_m (fun q τ => q = some (.int r) ∧ τ = σ')) := by
  unfold g_Mo_longCode at h
  refine a_aload_n i_Mo_longCode_0 rfl ?_
  refine a_iconst i_Mo_longCode_1 ?_
  obtain ⟨v3, σ3, e3, h⟩ := am_bd_some h
  refine am_cvd (rest := []) [.int 0] c_Mo_longCode_2 ⟨by decide, _, rfl⟩ rfl (Nat.le_of_ble_eq_true rfl) (t_Mo_leb e3) ?_
  refine a_lstore_n i_Mo_longCode_5 rfl ?_
  refine a_aload_n i_Mo_longCode_6 rfl ?_
  refine a_get (v := .int (σ3.1.1 0 8)) i_Mo_longCode_7 rfl rfl ?_
  by_cases c7 : (σ3.1.1 0 8) = 0
  · rw [if_pos c7] at h
    refine a_iff i_Mo_longCode_10 c7 ?_
    refine a_lload_n i_Mo_longCode_13 rfl ?_
    refine a_lconst i_Mo_longCode_14 ?_
    refine a_aload_n i_Mo_longCode_15 rfl ?_
    refine a_get (v := .int (σ3.1.1 0 7)) i_Mo_longCode_16 rfl rfl ?_
    refine a_aload_n i_Mo_longCode_19 rfl ?_
    refine a_get (v := .int (σ3.1.1 0 6)) i_Mo_longCode_20 rfl rfl ?_
    refine a_isub i_Mo_longCode_23 ?_
    refine a_i2l i_Mo_longCode_24 ?_
    obtain ⟨v16, σ16, e16, h⟩ := am_bd_some h
    refine am_csd (rest := []) [.long v3, .long 1, .long (((σ3.1.1 0 7) - (σ3.1.1 0 6)).toInt64)] c_Mo_longCode_25 rfl (Nat.le_of_ble_eq_true rfl) (t_Mo_in e16) ?_
    by_cases c17 : v16 = 0
    · rw [if_pos c17] at h
      refine a_iff i_Mo_longCode_28 c17 ?_
      exact am_wk (t_Mo_longCode_31 h) ⟨Or.inl rfl, Or.inl rfl, Or.inl rfl, Or.inl rfl, Or.inl rfl, Or.inl rfl, trivial⟩
    · rw [if_neg c17] at h
      refine a_ift i_Mo_longCode_28 c17 ?_
      refine a_aload_n i_Mo_longCode_33 rfl ?_
      refine a_get (v := .int (σ16.1.1 0 6)) i_Mo_longCode_34 rfl rfl ?_
      refine a_lload_n i_Mo_longCode_37 rfl ?_
      refine a_l2i i_Mo_longCode_38 ?_
      refine a_iadd i_Mo_longCode_39 ?_
      refine a_istore_n i_Mo_longCode_40 rfl ?_
      refine a_aload_n i_Mo_longCode_41 rfl ?_
      refine a_iconst i_Mo_longCode_42 ?_
      obtain ⟨v26, σ26, e26, h⟩ := am_bd_some h
      refine am_cvd (rest := []) [.int 1] c_Mo_longCode_43 ⟨by decide, _, rfl⟩ rfl (Nat.le_of_ble_eq_true rfl) (t_Mo_u e26) ?_
      refine a_l2i i_Mo_longCode_46 ?_
      refine a_istore i_Mo_longCode_47 rfl ?_
      refine a_iconst i_Mo_longCode_49 ?_
      refine a_istore i_Mo_longCode_50 rfl ?_
      refine a_iload i_Mo_longCode_52 rfl ?_
      refine a_iconst i_Mo_longCode_54 ?_
      by_cases c33 : v26.toInt32 = 1
      · rw [if_pos c33] at h
        refine a_icf i_Mo_longCode_55 c33 ?_
        refine a_aload_n i_Mo_longCode_58 rfl ?_
        refine a_iconst i_Mo_longCode_59 ?_
        obtain ⟨v36, σ36, e36, h⟩ := am_bd_some h
        refine am_cvd (rest := []) [.int 1] c_Mo_longCode_60 ⟨by decide, _, rfl⟩ rfl (Nat.le_of_ble_eq_true rfl) (t_Mo_row e36) ?_
        refine a_istore i_Mo_longCode_63 rfl ?_
        refine a_aload_n i_Mo_longCode_65 rfl ?_
        obtain ⟨v39, σ39, e39, h⟩ := am_bd_some h
        refine am_cvd (rest := []) [] c_Mo_longCode_66 ⟨by decide, _, rfl⟩ rfl (Nat.le_of_ble_eq_true rfl) (t_Mo_begin e39) ?_
        refine a_goto i_Mo_longCode_69 ?_
        exact am_wk (t_Mo_longCode_112 h) ⟨Or.inr rfl, Or.inl rfl, Or.inl rfl, Or.inr rfl, Or.inl rfl, Or.inr rfl, trivial⟩
      · rw [if_neg c33] at h
        refine a_ict i_Mo_longCode_55 c33 ?_
        refine a_iload i_Mo_longCode_72 rfl ?_
        refine a_iconst i_Mo_longCode_74 ?_
        by_cases c36 : v26.toInt32 = 2
        · rw [if_pos c36] at h
          refine a_icf i_Mo_longCode_75 c36 ?_
          refine a_lload_n i_Mo_longCode_78 rfl ?_
          refine a_ldc2 i_Mo_longCode_79 ?_
          refine a_lcmp i_Mo_longCode_82 ?_
          by_cases c40 : (lg_cmp v3 9) < 0
          · rw [if_pos c40] at h
            refine a_ift i_Mo_longCode_83 c40 ?_
            refine a_iconst i_Mo_longCode_90 ?_
            exact am_wk (t_Mo_longCode_91 h) ⟨Or.inr rfl, Or.inl rfl, Or.inl rfl, Or.inr rfl, Or.inl rfl, Or.inl rfl, trivial⟩
          · rw [if_neg c40] at h
            refine a_iff i_Mo_longCode_83 c40 ?_
            refine a_iconst i_Mo_longCode_86 ?_
            refine a_goto i_Mo_longCode_87 ?_
            exact am_wk (t_Mo_longCode_91 h) ⟨Or.inr rfl, Or.inl rfl, Or.inl rfl, Or.inr rfl, Or.inl rfl, Or.inl rfl, trivial⟩
        · rw [if_neg c36] at h
          refine a_ict i_Mo_longCode_75 c36 ?_
          exact am_wk (t_Mo_longCode_112 h) ⟨Or.inr rfl, Or.inl rfl, Or.inl rfl, Or.inr rfl, Or.inl rfl, Or.inr rfl, trivial⟩
  · rw [if_neg c7] at h
    refine a_ift i_Mo_longCode_10 c7 ?_
    exact am_wk (t_Mo_longCode_31 h) ⟨Or.inl rfl, Or.inl rfl, Or.inl rfl, Or.inl rfl, Or.inl rfl, Or.inl rfl, trivial⟩
theorem t_Mo_longCode {σ σ' : am_S} {r : Int32} (h : g_Mo_longCode σ = some (r, σ')) : am_Mt S_m M_Mo_longCode [.ref 0] σ (fun q τ => q = some (.int r) ∧ τ = σ') :=
  am_M_of ok_Mo_longCode (Nat.le_of_ble_eq_true rfl) (t_Mo_longCode_0 h)
def g_Mo_code_161 (y0 : Int32) (σ : am_S) : Option (Int32 × am_S) :=
  am_gd (z01 y0) <|
  some (y0, σ)
set_option maxHeartbeats 4000000 in
theorem t_Mo_code_161 {y0 : Int32} {σ σ' : am_S} {r : Int32} (h : g_Mo_code_161 y0 σ = some (r, σ')) : am_A S_m M_Mo_code (161, [none, none, none, none, none, none], [.int y0], σ) (am_r S_m (fun q τ => q = some (.int r) ∧ τ = σ')) := by
  unfold g_Mo_code_161 at h
  obtain ⟨c1, h⟩ := gd_some h
  exact am_ret_z ok_Mo_code rfl rfl (z01_or c1) (am_lf_i h)
def g_Mo_code_189 (y0 : Int32) (σ : am_S) : Option (Int32 × am_S) :=
  am_gd (z01 y0) <|
  some (y0, σ)
set_option maxHeartbeats 4000000 in
theorem t_Mo_code_189 {y0 : Int32} {σ σ' : am_S} {r : Int32} (h : g_Mo_code_189 y0 σ = some (r, σ')) : am_A S_m M_Mo_code (189, [none, none, none, none, none, none], [.int y0], σ) (am_r S_m (fun q τ => q = some (.int r) ∧ τ = σ')) := by
  unfold g_Mo_code_189 at h
  obtain ⟨c1, h⟩ := gd_some h
  exact am_ret_z ok_Mo_code rfl rfl (z01_or c1) (am_lf_i h)
def g_Mo_code_211 (y0 : Int32) (σ : am_S) : Option (Int32 × am_S) :=
  am_gd (z01 y0) <|
  some (y0, σ)
set_option maxHeartbeats 4000000 in
theorem t_Mo_code_211 {y0 : Int32} {σ σ' : am_S} {r : Int32} (h : g_Mo_code_211 y0 σ = some (r, σ')) : am_A S_m M_Mo_code (211, [none, none, none, none, none, none], [.int y0], σ) (am_r S_m (fun q τ => q = some (.int r) ∧ τ = σ')) := by
  unfold g_Mo_code_211 at h
  obtain ⟨c1, h⟩ := gd_some h
  exact am_ret_z ok_Mo_code rfl rfl (z01_or c1) (am_lf_i h)
def g_Mo_code_212 (σ : am_S) : Option (Int32 × am_S) :=
  some (1, σ)
set_option maxHeartbeats 4000000 in
theorem t_Mo_code_212 {σ σ' : am_S} {r : Int32} (h : g_Mo_code_212 σ = some (r, σ')) : am_A S_m M_Mo_code (212, [none, none, none, none, none, none], [], σ) (am_r S_m (fun q τ => q = some (.int r) ∧ τ = σ')) := by
  unfold g_Mo_code_212 at h
  refine a_iconst i_Mo_code_212 ?_
  exact am_ret_z ok_Mo_code rfl rfl (Or.inr rfl) (am_lf_i h)
def g_Mo_code_265 (y0 : Int32) (σ : am_S) : Option (Int32 × am_S) :=
  am_gd (z01 y0) <|
  some (y0, σ)
set_option maxHeartbeats 4000000 in
theorem t_Mo_code_265 {y0 : Int32} {σ σ' : am_S} {r : Int32} (h : g_Mo_code_265 y0 σ = some (r, σ')) : am_A S_m M_Mo_code (265, [none, none, none, none, none, none], [.int y0], σ) (am_r S_m (fun q τ => q = some (.int r) ∧ τ = σ')) := by
  unfold g_Mo_code_265 at h
  obtain ⟨c1, h⟩ := gd_some h
  exact am_ret_z ok_Mo_code rfl rfl (z01_or c1) (am_lf_i h)
def g_Mo_code_331 (y0 : Int32) (σ : am_S) : Option (Int32 × am_S) :=
  am_gd (z01 y0) <|
  some (y0, σ)
set_option maxHeartbeats 4000000 in
theorem t_Mo_code_331 {y0 : Int32} {σ σ' : am_S} {r : Int32} (h : g_Mo_code_331 y0 σ = some (r, σ')) : am_A S_m M_Mo_code (331, [none, none, none, none, none, none], [.int y0], σ) (am_r S_m (fun q τ => q = some (.int r) ∧ τ = σ')) := by
  unfold g_Mo_code_331 at h
  obtain ⟨c1, h⟩ := gd_some h
  exact am_ret_z ok_Mo_code rfl rfl (z01_or c1) (am_lf_i h)
def g_Mo_code_301 : Nat → Int32 → Int32 → am_S → Option (Int32 × am_S)
  | 0, _, _, _ => none
  | n + 1, x2, x3, σ =>
  if x3 < x2 then
    am_bd (g_Mo_leb (0) σ) fun v6 σ6 =>
    g_Mo_code_301 n x2 (x3 + 1) σ6
  else
    if (σ.1.1 0 8) = 0 then
      g_Mo_code_331 (1) σ
    else
      g_Mo_code_331 (0) σ
set_option maxHeartbeats 4000000 in
theorem t_Mo_code_301 : ∀ (n : Nat) {x2 : Int32} {x3 : Int32} {σ σ' : am_S} {r : Int32} (h : g_Mo_code_301 n x2 x3 σ = some (r, σ')), am_A S_m M_Mo_code (301, [some (.ref 0), none, some (.int x2), some (.int x3), none, none], [], σ) (am_r S_m (fun q τ => q = some (.int r) ∧ τ = σ')) := by
  intro n
  induction n with
  | zero =>
    intro x2 x3 σ σ' r h
    cases h
  | succ n ih =>
  intro x2 x3 σ σ' r h
  unfold g_Mo_code_301 at h
  refine a_iload_n i_Mo_code_301 rfl ?_
  refine a_iload_n i_Mo_code_302 rfl ?_
  by_cases c3 : x3 < x2
  · rw [if_pos c3] at h
    refine a_icf i_Mo_code_303 (Int32.not_le.mpr c3) ?_
    refine a_aload_n i_Mo_code_306 rfl ?_
    refine a_iconst i_Mo_code_307 ?_
    obtain ⟨v6, σ6, e6, h⟩ := am_bd_some h
    refine am_cvd (rest := []) [.int 0] c_Mo_code_308 ⟨by decide, _, rfl⟩ rfl (Nat.le_of_ble_eq_true rfl) (t_Mo_leb e6) ?_
    refine a_lstore i_Mo_code_311 rfl ?_
    refine a_iinc i_Mo_code_313 rfl rfl ?_
    refine a_goto i_Mo_code_316 ?_
    exact am_wk (ih h) ⟨Or.inr rfl, Or.inl rfl, Or.inr rfl, Or.inr rfl, Or.inl rfl, Or.inl rfl, trivial⟩
  · rw [if_neg c3] at h
    refine a_ict i_Mo_code_303 (Int32.not_lt.mp c3) ?_
    refine a_aload_n i_Mo_code_319 rfl ?_
    refine a_get (v := .int (σ.1.1 0 8)) i_Mo_code_320 rfl rfl ?_
    by_cases c6 : (σ.1.1 0 8) = 0
    · rw [if_pos c6] at h
      refine a_iff i_Mo_code_323 c6 ?_
      refine a_iconst i_Mo_code_326 ?_
      refine a_goto i_Mo_code_327 ?_
      exact am_wk (t_Mo_code_331 h) ⟨Or.inl rfl, Or.inl rfl, Or.inl rfl, Or.inl rfl, Or.inl rfl, Or.inl rfl, trivial⟩
    · rw [if_neg c6] at h
      refine a_ift i_Mo_code_323 c6 ?_
      refine a_iconst i_Mo_code_330 ?_
      exact am_wk (t_Mo_code_331 h) ⟨Or.inl rfl, Or.inl rfl, Or.inl rfl, Or.inl rfl, Or.inl rfl, Or.inl rfl, trivial⟩
def g_Mo_code_298 (y0 : Int32) (σ : am_S) : Option (Int32 × am_S) :=
  g_Mo_code_301 4000 y0 (0) σ
set_option maxHeartbeats 4000000 in
theorem t_Mo_code_298 {y0 : Int32} {σ σ' : am_S} {r : Int32} (h : g_Mo_code_298 y0 σ = some (r, σ')) : am_A S_m M_Mo_code (298, [some (.ref 0), none, none, none, none, none], [.int y0], σ) (am_r S_m (fun q τ => q = some (.int r) ∧ τ = σ')) := by
  unfold g_Mo_code_298 at h
  refine a_istore_n i_Mo_code_298 rfl ?_
  refine a_iconst i_Mo_code_299 ?_
  refine a_istore_n i_Mo_code_300 rfl ?_
  exact t_Mo_code_301 4000 h
def g_Mo_code_277 (σ : am_S) : Option (Int32 × am_S) :=
  g_Mo_code_298 (1) σ
set_option maxHeartbeats 4000000 in
theorem t_Mo_code_277 {σ σ' : am_S} {r : Int32} (h : g_Mo_code_277 σ = some (r, σ')) : am_A S_m M_Mo_code (277, [some (.ref 0), none, none, none, none, none], [], σ) (am_r S_m (fun q τ => q = some (.int r) ∧ τ = σ')) := by
  unfold g_Mo_code_277 at h
  refine a_iconst i_Mo_code_277 ?_
  refine a_goto i_Mo_code_278 ?_
  exact t_Mo_code_298 h
def g_Mo_code_266 (x1 : Int32) (σ : am_S) : Option (Int32 × am_S) :=
  if x1 = 5 then
    g_Mo_code_277 σ
  else
    if x1 = 12 then
      g_Mo_code_277 σ
    else
      am_gd (inb (((σ.1.1 0 51) + x1) - 1) 3000) <|
      g_Mo_code_298 ((σ.2.1 2 (((σ.1.1 0 51) + x1) - 1).toNatClampNeg) &&& 255) σ
set_option maxHeartbeats 4000000 in
theorem t_Mo_code_266 {x1 : Int32} {σ σ' : am_S} {r : Int32} (h : g_Mo_code_266 x1 σ = some (r, σ')) : am_A S_m M_Mo_code (266, [some (.ref 0), some (.int x1), none, none, none, none], [], σ) (am_r S_m (fun q τ => q = some (.int r) ∧ τ = σ')) := by
  unfold g_Mo_code_266 at h
  refine a_iload_n i_Mo_code_266 rfl ?_
  refine a_iconst i_Mo_code_267 ?_
  by_cases c3 : x1 = 5
  · rw [if_pos c3] at h
    refine a_ict i_Mo_code_268 c3 ?_
    exact am_wk (t_Mo_code_277 h) ⟨Or.inr rfl, Or.inl rfl, Or.inl rfl, Or.inl rfl, Or.inl rfl, Or.inl rfl, trivial⟩
  · rw [if_neg c3] at h
    refine a_icf i_Mo_code_268 c3 ?_
    refine a_iload_n i_Mo_code_271 rfl ?_
    refine a_bipush i_Mo_code_272 ?_
    by_cases c6 : x1 = 12
    · rw [if_pos c6] at h
      refine a_icf i_Mo_code_274 c6 ?_
      exact am_wk (t_Mo_code_277 h) ⟨Or.inr rfl, Or.inl rfl, Or.inl rfl, Or.inl rfl, Or.inl rfl, Or.inl rfl, trivial⟩
    · rw [if_neg c6] at h
      refine a_ict i_Mo_code_274 c6 ?_
      refine a_aload_n i_Mo_code_281 rfl ?_
      refine a_get (v := .ref 2) i_Mo_code_282 rfl rfl ?_
      refine a_aload_n i_Mo_code_285 rfl ?_
      refine a_get (v := .int (σ.1.1 0 51)) i_Mo_code_286 rfl rfl ?_
      refine a_iload_n i_Mo_code_289 rfl ?_
      refine a_iadd i_Mo_code_290 ?_
      refine a_iconst i_Mo_code_291 ?_
      refine a_isub i_Mo_code_292 ?_
      obtain ⟨c15, h⟩ := gd_some h
      refine a_bal (n := 3000) i_Mo_code_293 rfl rfl (inb_in c15) ?_
      refine a_sipush i_Mo_code_294 ?_
      refine a_iand i_Mo_code_297 ?_
      exact am_wk (t_Mo_code_298 h) ⟨Or.inr rfl, Or.inl rfl, Or.inl rfl, Or.inl rfl, Or.inl rfl, Or.inl rfl, trivial⟩
def g_Mo_code (x1 : Int32) (σ : am_S) : Option (Int32 × am_S) :=
  if x1 < (σ.1.1 0 50) then
    if x1 = 0 then
      am_bd (g_Mo_longCode σ) fun v8 σ8 =>
      am_gd (z01 v8) <|
      some (v8, σ8)
    else
    if x1 = 1 then
      am_bd (g_Mo_row (0) σ) fun v9 σ9 =>
      am_gd (z01 v9) <|
      some (v9, σ9)
    else
    if x1 = 2 then
      am_bd (g_Mo_leb (0) σ) fun v12 σ12 =>
      if (σ12.1.1 0 8) = 0 then
        g_Mo_code_161 (1) (am_fl σ12 0 47 ((σ.1.2 0 47) + v12))
      else
        g_Mo_code_161 (0) (am_fl σ12 0 47 ((σ.1.2 0 47) + v12))
    else
    if x1 = 3 then
      am_bd (g_Mo_leb (1) σ) fun v12 σ12 =>
      if (σ12.1.1 0 8) = 0 then
        g_Mo_code_189 (1) (am_fi σ12 0 49 ((σ.1.1 0 49) + v12.toInt32))
      else
        g_Mo_code_189 (0) (am_fi σ12 0 49 ((σ.1.1 0 49) + v12.toInt32))
    else
    if x1 = 4 then
      am_bd (g_Mo_leb (0) σ) fun v10 σ10 =>
      if (σ10.1.1 0 8) = 0 then
        g_Mo_code_211 (1) (am_fl σ10 0 48 v10)
      else
        g_Mo_code_211 (0) (am_fl σ10 0 48 v10)
    else
    if x1 = 6 then
      g_Mo_code_212 σ
    else
    if x1 = 7 then
      g_Mo_code_212 σ
    else
    if x1 = 8 then
      am_gd (decide (¬ (σ.1.1 0 53) = 0)) <|
      some (1, am_fl σ 0 47 ((σ.1.2 0 47) + (((255 - (σ.1.1 0 50)) / (σ.1.1 0 53)).toInt64)))
    else
    if x1 = 9 then
      am_bd (g_Mo_u (2) σ) fun v12 σ12 =>
      if (σ12.1.1 0 8) = 0 then
        g_Mo_code_265 (1) (am_fl σ12 0 47 ((σ.1.2 0 47) + v12))
      else
        g_Mo_code_265 (0) (am_fl σ12 0 47 ((σ.1.2 0 47) + v12))
    else
    if x1 = 10 then
      g_Mo_code_212 σ
    else
    if x1 = 11 then
      g_Mo_code_212 σ
    else
    g_Mo_code_266 x1 σ
  else
    am_gd (decide (¬ (σ.1.1 0 53) = 0)) <|
    am_gd (decide (¬ (σ.1.1 0 53) = 0)) <|
    am_bd (g_Mo_row (0) (am_fi (am_fl σ 0 47 ((σ.1.2 0 47) + (((x1 - (σ.1.1 0 50)) / (σ.1.1 0 53)).toInt64))) 0 49 ((σ.1.1 0 49) + ((σ.1.1 0 52) + ((x1 - (σ.1.1 0 50)) - (x1 - (σ.1.1 0 50)) / (σ.1.1 0 53) * (σ.1.1 0 53)))))) fun v35 σ35 =>
    am_gd (z01 v35) <|
    some (v35, σ35)
set_option maxHeartbeats 4000000 in
theorem t_Mo_code_0 {x1 : Int32} {σ σ' : am_S} {r : Int32} (h : g_Mo_code x1 σ = some (r, σ')) : am_A S_m M_Mo_code (0, [some (.ref 0), some (.int x1), none, none, none, none], [], σ) (am_r S_m (fun q τ => q = some (.int r) ∧ τ = σ')) := by
  unfold g_Mo_code at h
  refine a_iload_n i_Mo_code_0 rfl ?_
  refine a_aload_n i_Mo_code_1 rfl ?_
  refine a_get (v := .int (σ.1.1 0 50)) i_Mo_code_2 rfl rfl ?_
  by_cases c4 : x1 < (σ.1.1 0 50)
  · rw [if_pos c4] at h
    refine a_ict i_Mo_code_5 c4 ?_
    refine a_iload_n i_Mo_code_60 rfl ?_
    by_cases d6_0 : x1 = 0
    · rw [if_pos d6_0] at h
      refine a_tab 0 i_Mo_code_61 rfl (by rw [d6_0]; decide) (by decide) rfl ?_
      refine a_aload_n i_Mo_code_124 rfl ?_
      obtain ⟨v8, σ8, e8, h⟩ := am_bd_some h
      refine am_cvd (rest := []) [] c_Mo_code_125 ⟨by decide, _, rfl⟩ rfl (Nat.le_of_ble_eq_true rfl) (t_Mo_longCode e8) ?_
      obtain ⟨c9, h⟩ := gd_some h
      exact am_ret_z ok_Mo_code rfl rfl (z01_or c9) (am_lf_i h)
    rw [if_neg d6_0] at h
    by_cases d6_1 : x1 = 1
    · rw [if_pos d6_1] at h
      refine a_tab 1 i_Mo_code_61 rfl (by rw [d6_1]; decide) (by decide) rfl ?_
      refine a_aload_n i_Mo_code_129 rfl ?_
      refine a_iconst i_Mo_code_130 ?_
      obtain ⟨v9, σ9, e9, h⟩ := am_bd_some h
      refine am_cvd (rest := []) [.int 0] c_Mo_code_131 ⟨by decide, _, rfl⟩ rfl (Nat.le_of_ble_eq_true rfl) (t_Mo_row e9) ?_
      obtain ⟨c10, h⟩ := gd_some h
      exact am_ret_z ok_Mo_code rfl rfl (z01_or c10) (am_lf_i h)
    rw [if_neg d6_1] at h
    by_cases d6_2 : x1 = 2
    · rw [if_pos d6_2] at h
      refine a_tab 2 i_Mo_code_61 rfl (by rw [d6_2]; decide) (by decide) rfl ?_
      refine a_aload_n i_Mo_code_135 rfl ?_
      refine a_dup_a i_Mo_code_136 ?_
      refine a_get (v := .long (σ.1.2 0 47)) i_Mo_code_137 rfl rfl ?_
      refine a_aload_n i_Mo_code_140 rfl ?_
      refine a_iconst i_Mo_code_141 ?_
      obtain ⟨v12, σ12, e12, h⟩ := am_bd_some h
      refine am_cvd (rest := [.long (σ.1.2 0 47), .ref 0]) [.int 0] c_Mo_code_142 ⟨by decide, _, rfl⟩ rfl (Nat.le_of_ble_eq_true rfl) (t_Mo_leb e12) ?_
      refine a_ladd i_Mo_code_145 ?_
      refine a_putl i_Mo_code_146 rfl ?_
      refine a_aload_n i_Mo_code_149 rfl ?_
      refine a_get (v := .int (σ12.1.1 0 8)) i_Mo_code_150 rfl rfl ?_
      by_cases c17 : (σ12.1.1 0 8) = 0
      · rw [if_pos c17] at h
        refine a_iff i_Mo_code_153 c17 ?_
        refine a_iconst i_Mo_code_156 ?_
        refine a_goto i_Mo_code_157 ?_
        exact am_wk (t_Mo_code_161 h) ⟨Or.inl rfl, Or.inl rfl, Or.inl rfl, Or.inl rfl, Or.inl rfl, Or.inl rfl, trivial⟩
      · rw [if_neg c17] at h
        refine a_ift i_Mo_code_153 c17 ?_
        refine a_iconst i_Mo_code_160 ?_
        exact am_wk (t_Mo_code_161 h) ⟨Or.inl rfl, Or.inl rfl, Or.inl rfl, Or.inl rfl, Or.inl rfl, Or.inl rfl, trivial⟩
    rw [if_neg d6_2] at h
    by_cases d6_3 : x1 = 3
    · rw [if_pos d6_3] at h
      refine a_tab 3 i_Mo_code_61 rfl (by rw [d6_3]; decide) (by decide) rfl ?_
      refine a_aload_n i_Mo_code_162 rfl ?_
      refine a_dup_a i_Mo_code_163 ?_
      refine a_get (v := .int (σ.1.1 0 49)) i_Mo_code_164 rfl rfl ?_
      refine a_aload_n i_Mo_code_167 rfl ?_
      refine a_iconst i_Mo_code_168 ?_
      obtain ⟨v12, σ12, e12, h⟩ := am_bd_some h
      refine am_cvd (rest := [.int (σ.1.1 0 49), .ref 0]) [.int 1] c_Mo_code_169 ⟨by decide, _, rfl⟩ rfl (Nat.le_of_ble_eq_true rfl) (t_Mo_leb e12) ?_
      refine a_l2i i_Mo_code_172 ?_
      refine a_iadd i_Mo_code_173 ?_
      refine a_puti i_Mo_code_174 rfl trivial ?_
      refine a_aload_n i_Mo_code_177 rfl ?_
      refine a_get (v := .int (σ12.1.1 0 8)) i_Mo_code_178 rfl rfl ?_
      by_cases c18 : (σ12.1.1 0 8) = 0
      · rw [if_pos c18] at h
        refine a_iff i_Mo_code_181 c18 ?_
        refine a_iconst i_Mo_code_184 ?_
        refine a_goto i_Mo_code_185 ?_
        exact am_wk (t_Mo_code_189 h) ⟨Or.inl rfl, Or.inl rfl, Or.inl rfl, Or.inl rfl, Or.inl rfl, Or.inl rfl, trivial⟩
      · rw [if_neg c18] at h
        refine a_ift i_Mo_code_181 c18 ?_
        refine a_iconst i_Mo_code_188 ?_
        exact am_wk (t_Mo_code_189 h) ⟨Or.inl rfl, Or.inl rfl, Or.inl rfl, Or.inl rfl, Or.inl rfl, Or.inl rfl, trivial⟩
    rw [if_neg d6_3] at h
    by_cases d6_4 : x1 = 4
    · rw [if_pos d6_4] at h
      refine a_tab 4 i_Mo_code_61 rfl (by rw [d6_4]; decide) (by decide) rfl ?_
      refine a_aload_n i_Mo_code_190 rfl ?_
      refine a_aload_n i_Mo_code_191 rfl ?_
      refine a_iconst i_Mo_code_192 ?_
      obtain ⟨v10, σ10, e10, h⟩ := am_bd_some h
      refine am_cvd (rest := [.ref 0]) [.int 0] c_Mo_code_193 ⟨by decide, _, rfl⟩ rfl (Nat.le_of_ble_eq_true rfl) (t_Mo_leb e10) ?_
      refine a_putl i_Mo_code_196 rfl ?_
      refine a_aload_n i_Mo_code_199 rfl ?_
      refine a_get (v := .int (σ10.1.1 0 8)) i_Mo_code_200 rfl rfl ?_
      by_cases c14 : (σ10.1.1 0 8) = 0
      · rw [if_pos c14] at h
        refine a_iff i_Mo_code_203 c14 ?_
        refine a_iconst i_Mo_code_206 ?_
        refine a_goto i_Mo_code_207 ?_
        exact am_wk (t_Mo_code_211 h) ⟨Or.inl rfl, Or.inl rfl, Or.inl rfl, Or.inl rfl, Or.inl rfl, Or.inl rfl, trivial⟩
      · rw [if_neg c14] at h
        refine a_ift i_Mo_code_203 c14 ?_
        refine a_iconst i_Mo_code_210 ?_
        exact am_wk (t_Mo_code_211 h) ⟨Or.inl rfl, Or.inl rfl, Or.inl rfl, Or.inl rfl, Or.inl rfl, Or.inl rfl, trivial⟩
    rw [if_neg d6_4] at h
    by_cases d6_5 : x1 = 6
    · rw [if_pos d6_5] at h
      refine a_tab 6 i_Mo_code_61 rfl (by rw [d6_5]; decide) (by decide) rfl ?_
      exact am_wk (t_Mo_code_212 h) ⟨Or.inl rfl, Or.inl rfl, Or.inl rfl, Or.inl rfl, Or.inl rfl, Or.inl rfl, trivial⟩
    rw [if_neg d6_5] at h
    by_cases d6_6 : x1 = 7
    · rw [if_pos d6_6] at h
      refine a_tab 7 i_Mo_code_61 rfl (by rw [d6_6]; decide) (by decide) rfl ?_
      exact am_wk (t_Mo_code_212 h) ⟨Or.inl rfl, Or.inl rfl, Or.inl rfl, Or.inl rfl, Or.inl rfl, Or.inl rfl, trivial⟩
    rw [if_neg d6_6] at h
    by_cases d6_7 : x1 = 8
    · rw [if_pos d6_7] at h
      refine a_tab 8 i_Mo_code_61 rfl (by rw [d6_7]; decide) (by decide) rfl ?_
      refine a_aload_n i_Mo_code_214 rfl ?_
      refine a_dup_a i_Mo_code_215 ?_
      refine a_get (v := .long (σ.1.2 0 47)) i_Mo_code_216 rfl rfl ?_
      refine a_sipush i_Mo_code_219 ?_
      refine a_aload_n i_Mo_code_222 rfl ?_
      refine a_get (v := .int (σ.1.1 0 50)) i_Mo_code_223 rfl rfl ?_
      refine a_isub i_Mo_code_226 ?_
      refine a_aload_n i_Mo_code_227 rfl ?_
      refine a_get (v := .int (σ.1.1 0 53)) i_Mo_code_228 rfl rfl ?_
      obtain ⟨c16, h⟩ := gd_some h
      refine a_idiv i_Mo_code_231 (of_decide_eq_true c16) ?_
      refine a_i2l i_Mo_code_232 ?_
      refine a_ladd i_Mo_code_233 ?_
      refine a_putl i_Mo_code_234 rfl ?_
      refine a_iconst i_Mo_code_237 ?_
      exact am_ret_z ok_Mo_code rfl rfl (Or.inr rfl) (am_lf_i h)
    rw [if_neg d6_7] at h
    by_cases d6_8 : x1 = 9
    · rw [if_pos d6_8] at h
      refine a_tab 9 i_Mo_code_61 rfl (by rw [d6_8]; decide) (by decide) rfl ?_
      refine a_aload_n i_Mo_code_239 rfl ?_
      refine a_dup_a i_Mo_code_240 ?_
      refine a_get (v := .long (σ.1.2 0 47)) i_Mo_code_241 rfl rfl ?_
      refine a_aload_n i_Mo_code_244 rfl ?_
      refine a_iconst i_Mo_code_245 ?_
      obtain ⟨v12, σ12, e12, h⟩ := am_bd_some h
      refine am_cvd (rest := [.long (σ.1.2 0 47), .ref 0]) [.int 2] c_Mo_code_246 ⟨by decide, _, rfl⟩ rfl (Nat.le_of_ble_eq_true rfl) (t_Mo_u e12) ?_
      refine a_ladd i_Mo_code_249 ?_
      refine a_putl i_Mo_code_250 rfl ?_
      refine a_aload_n i_Mo_code_253 rfl ?_
      refine a_get (v := .int (σ12.1.1 0 8)) i_Mo_code_254 rfl rfl ?_
      by_cases c17 : (σ12.1.1 0 8) = 0
      · rw [if_pos c17] at h
        refine a_iff i_Mo_code_257 c17 ?_
        refine a_iconst i_Mo_code_260 ?_
        refine a_goto i_Mo_code_261 ?_
        exact am_wk (t_Mo_code_265 h) ⟨Or.inl rfl, Or.inl rfl, Or.inl rfl, Or.inl rfl, Or.inl rfl, Or.inl rfl, trivial⟩
      · rw [if_neg c17] at h
        refine a_ift i_Mo_code_257 c17 ?_
        refine a_iconst i_Mo_code_264 ?_
        exact am_wk (t_Mo_code_265 h) ⟨Or.inl rfl, Or.inl rfl, Or.inl rfl, Or.inl rfl, Or.inl rfl, Or.inl rfl, trivial⟩
    rw [if_neg d6_8] at h
    by_cases d6_9 : x1 = 10
    · rw [if_pos d6_9] at h
      refine a_tab 10 i_Mo_code_61 rfl (by rw [d6_9]; decide) (by decide) rfl ?_
      exact am_wk (t_Mo_code_212 h) ⟨Or.inl rfl, Or.inl rfl, Or.inl rfl, Or.inl rfl, Or.inl rfl, Or.inl rfl, trivial⟩
    rw [if_neg d6_9] at h
    by_cases d6_10 : x1 = 11
    · rw [if_pos d6_10] at h
      refine a_tab 11 i_Mo_code_61 rfl (by rw [d6_10]; decide) (by decide) rfl ?_
      exact am_wk (t_Mo_code_212 h) ⟨Or.inl rfl, Or.inl rfl, Or.inl rfl, Or.inl rfl, Or.inl rfl, Or.inl rfl, trivial⟩
    rw [if_neg d6_10] at h
    refine a_tabn [0, 1, 2, 3, 4, 6, 7, 8, 9, 10, 11] i_Mo_code_61 rfl rfl (by decide) (List.forall_mem_cons.mpr ⟨lv_neT d6_0 (a := 0) (by decide), List.forall_mem_cons.mpr ⟨lv_neT d6_1 (a := 1) (by decide), List.forall_mem_cons.mpr ⟨lv_neT d6_2 (a := 2) (by decide), List.forall_mem_cons.mpr ⟨lv_neT d6_3 (a := 3) (by decide), List.forall_mem_cons.mpr ⟨lv_neT d6_4 (a := 4) (by decide), List.forall_mem_cons.mpr ⟨lv_neT d6_5 (a := 6) (by decide), List.forall_mem_cons.mpr ⟨lv_neT d6_6 (a := 7) (by decide), List.forall_mem_cons.mpr ⟨lv_neT d6_7 (a := 8) (by decide), List.forall_mem_cons.mpr ⟨lv_neT d6_8 (a := 9) (by decide), List.forall_mem_cons.mpr ⟨lv_neT d6_9 (a := 10) (by decide), List.forall_mem_cons.mpr ⟨lv_neT d6_10 (a := 11) (by decide), fun _ h9 => absurd h9 List.not_mem_nil⟩⟩⟩⟩⟩⟩⟩⟩⟩⟩⟩) ?_
    exact t_Mo_code_266 h
  · rw [if_neg c4] at h
    refine a_icf i_Mo_code_5 c4 ?_
    refine a_aload_n i_Mo_code_8 rfl ?_
    refine a_dup_a i_Mo_code_9 ?_
    refine a_get (v := .long (σ.1.2 0 47)) i_Mo_code_10 rfl rfl ?_
    refine a_iload_n i_Mo_code_13 rfl ?_
    refine a_aload_n i_Mo_code_14 rfl ?_
    refine a_get (v := .int (σ.1.1 0 50)) i_Mo_code_15 rfl rfl ?_
    refine a_isub i_Mo_code_18 ?_
    refine a_aload_n i_Mo_code_19 rfl ?_
    refine a_get (v := .int (σ.1.1 0 53)) i_Mo_code_20 rfl rfl ?_
    obtain ⟨c14, h⟩ := gd_some h
    refine a_idiv i_Mo_code_23 (of_decide_eq_true c14) ?_
    refine a_i2l i_Mo_code_24 ?_
    refine a_ladd i_Mo_code_25 ?_
    refine a_putl i_Mo_code_26 rfl ?_
    refine a_aload_n i_Mo_code_29 rfl ?_
    refine a_dup_a i_Mo_code_30 ?_
    refine a_get (v := .int (σ.1.1 0 49)) i_Mo_code_31 rfl rfl ?_
    refine a_aload_n i_Mo_code_34 rfl ?_
    refine a_get (v := .int (σ.1.1 0 52)) i_Mo_code_35 rfl rfl ?_
    refine a_iload_n i_Mo_code_38 rfl ?_
    refine a_aload_n i_Mo_code_39 rfl ?_
    refine a_get (v := .int (σ.1.1 0 50)) i_Mo_code_40 rfl rfl ?_
    refine a_isub i_Mo_code_43 ?_
    refine a_aload_n i_Mo_code_44 rfl ?_
    refine a_get (v := .int (σ.1.1 0 53)) i_Mo_code_45 rfl rfl ?_
    obtain ⟨c29, h⟩ := gd_some h
    refine a_irem i_Mo_code_48 (of_decide_eq_true c29) ?_
    refine a_iadd i_Mo_code_49 ?_
    refine a_iadd i_Mo_code_50 ?_
    refine a_puti i_Mo_code_51 rfl trivial ?_
    refine a_aload_n i_Mo_code_54 rfl ?_
    refine a_iconst i_Mo_code_55 ?_
    obtain ⟨v35, σ35, e35, h⟩ := am_bd_some h
    refine am_cvd (rest := []) [.int 0] c_Mo_code_56 ⟨by decide, _, rfl⟩ rfl (Nat.le_of_ble_eq_true rfl) (t_Mo_row e35) ?_
    obtain ⟨c36, h⟩ := gd_some h
    exact am_ret_z ok_Mo_code rfl rfl (z01_or c36) (am_lf_i h)
theorem t_Mo_code {x1 : Int32} {σ σ' : am_S} {r : Int32} (h : g_Mo_code x1 σ = some (r, σ')) : am_Mt S_m M_Mo_code [.ref 0, .int x1] σ (fun q τ => q = some (.int r) ∧ τ = σ') :=
  am_M_of ok_Mo_code (Nat.le_of_ble_eq_true rfl) (t_Mo_code_0 h)
def g_Mo_readLines_46 (σ : am_S) : Option (Int32 × am_S) :=
  some (0, σ)
set_option maxHeartbeats 4000000 in
theorem t_Mo_readLines_46 {σ σ' : am_S} {r : Int32} (h : g_Mo_readLines_46 σ = some (r, σ')) : am_A S_m M_Mo_readLines (46, [none, none, none, none, none, none, none, none, none], [], σ) (am_r S_m (fun q τ => q = some (.int r) ∧ τ = σ')) := by
  unfold g_Mo_readLines_46 at h
  refine a_iconst i_Mo_readLines_46 ?_
  exact am_ret_z ok_Mo_readLines rfl rfl (Or.inl rfl) (am_lf_i h)
def g_Mo_readLines_159 (σ : am_S) : Option (Int32 × am_S) :=
  some (0, σ)
set_option maxHeartbeats 4000000 in
theorem t_Mo_readLines_159 {σ σ' : am_S} {r : Int32} (h : g_Mo_readLines_159 σ = some (r, σ')) : am_A S_m M_Mo_readLines (159, [none, none, none, none, none, none, none, none, none], [], σ) (am_r S_m (fun q τ => q = some (.int r) ∧ τ = σ')) := by
  unfold g_Mo_readLines_159 at h
  refine a_iconst i_Mo_readLines_159 ?_
  exact am_ret_z ok_Mo_readLines rfl rfl (Or.inl rfl) (am_lf_i h)
def g_Mo_readLines_409 (y0 : Int32) (σ : am_S) : Option (Int32 × am_S) :=
  am_gd (z01 y0) <|
  some (y0, σ)
set_option maxHeartbeats 4000000 in
theorem t_Mo_readLines_409 {y0 : Int32} {σ σ' : am_S} {r : Int32} (h : g_Mo_readLines_409 y0 σ = some (r, σ')) : am_A S_m M_Mo_readLines (409, [none, none, none, none, none, none, none, none, none], [.int y0], σ) (am_r S_m (fun q τ => q = some (.int r) ∧ τ = σ')) := by
  unfold g_Mo_readLines_409 at h
  obtain ⟨c1, h⟩ := gd_some h
  exact am_ret_z ok_Mo_readLines rfl rfl (z01_or c1) (am_lf_i h)
def g_Mo_readLines_408 (σ : am_S) : Option (Int32 × am_S) :=
  g_Mo_readLines_409 (0) σ
set_option maxHeartbeats 4000000 in
theorem t_Mo_readLines_408 {σ σ' : am_S} {r : Int32} (h : g_Mo_readLines_408 σ = some (r, σ')) : am_A S_m M_Mo_readLines (408, [none, none, none, none, none, none, none, none, none], [], σ) (am_r S_m (fun q τ => q = some (.int r) ∧ τ = σ')) := by
  unfold g_Mo_readLines_408 at h
  refine a_iconst i_Mo_readLines_408 ?_
  exact t_Mo_readLines_409 h
def g_Mo_readLines_392 (x4 : Int32) (σ : am_S) : Option (Int32 × am_S) :=
  if x4 = 0 then
    g_Mo_readLines_408 σ
  else
    if (σ.1.1 0 8) = 0 then
      g_Mo_readLines_409 (1) σ
    else
      g_Mo_readLines_408 σ
set_option maxHeartbeats 4000000 in
theorem t_Mo_readLines_392 {x4 : Int32} {σ σ' : am_S} {r : Int32} (h : g_Mo_readLines_392 x4 σ = some (r, σ')) : am_A S_m M_Mo_readLines (392, [some (.ref 0), none, none, none, some (.int x4), none, none, none, none], [], σ) (am_r S_m (fun q τ => q = some (.int r) ∧ τ = σ')) := by
  unfold g_Mo_readLines_392 at h
  refine a_iload i_Mo_readLines_392 rfl ?_
  by_cases c2 : x4 = 0
  · rw [if_pos c2] at h
    refine a_ift i_Mo_readLines_394 c2 ?_
    exact am_wk (t_Mo_readLines_408 h) ⟨Or.inl rfl, Or.inl rfl, Or.inl rfl, Or.inl rfl, Or.inl rfl, Or.inl rfl, Or.inl rfl, Or.inl rfl, Or.inl rfl, trivial⟩
  · rw [if_neg c2] at h
    refine a_iff i_Mo_readLines_394 c2 ?_
    refine a_aload_n i_Mo_readLines_397 rfl ?_
    refine a_get (v := .int (σ.1.1 0 8)) i_Mo_readLines_398 rfl rfl ?_
    by_cases c5 : (σ.1.1 0 8) = 0
    · rw [if_pos c5] at h
      refine a_iff i_Mo_readLines_401 c5 ?_
      refine a_iconst i_Mo_readLines_404 ?_
      refine a_goto i_Mo_readLines_405 ?_
      exact am_wk (t_Mo_readLines_409 h) ⟨Or.inl rfl, Or.inl rfl, Or.inl rfl, Or.inl rfl, Or.inl rfl, Or.inl rfl, Or.inl rfl, Or.inl rfl, Or.inl rfl, trivial⟩
    · rw [if_neg c5] at h
      refine a_ift i_Mo_readLines_401 c5 ?_
      exact am_wk (t_Mo_readLines_408 h) ⟨Or.inl rfl, Or.inl rfl, Or.inl rfl, Or.inl rfl, Or.inl rfl, Or.inl rfl, Or.inl rfl, Or.inl rfl, Or.inl rfl, trivial⟩
def g_Mo_readLines_357 : Nat → Int32 → am_S → Option (Int32 × am_S)
  | 0, _, _ => none
  | n + 1, x4, σ =>
  if x4 = 0 then
    g_Mo_readLines_392 x4 σ
  else
    if (σ.1.1 0 6) < (σ.1.1 0 7) then
      am_bd (g_Mo_u (1) σ) fun v10 σ10 =>
      am_bd (g_Mo_code v10.toInt32 σ10) fun v15 σ15 =>
      g_Mo_readLines_357 n v15 σ15
    else
      g_Mo_readLines_392 x4 σ
set_option maxHeartbeats 4000000 in
theorem t_Mo_readLines_357 : ∀ (n : Nat) {x4 : Int32} {σ σ' : am_S} {r : Int32} (h : g_Mo_readLines_357 n x4 σ = some (r, σ')), am_A S_m M_Mo_readLines (357, [some (.ref 0), none, none, none, some (.int x4), none, none, none, none], [], σ) (am_r S_m (fun q τ => q = some (.int r) ∧ τ = σ')) := by
  intro n
  induction n with
  | zero =>
    intro x4 σ σ' r h
    cases h
  | succ n ih =>
  intro x4 σ σ' r h
  unfold g_Mo_readLines_357 at h
  refine a_iload i_Mo_readLines_357 rfl ?_
  by_cases c2 : x4 = 0
  · rw [if_pos c2] at h
    refine a_ift i_Mo_readLines_359 c2 ?_
    exact t_Mo_readLines_392 h
  · rw [if_neg c2] at h
    refine a_iff i_Mo_readLines_359 c2 ?_
    refine a_aload_n i_Mo_readLines_362 rfl ?_
    refine a_get (v := .int (σ.1.1 0 6)) i_Mo_readLines_363 rfl rfl ?_
    refine a_aload_n i_Mo_readLines_366 rfl ?_
    refine a_get (v := .int (σ.1.1 0 7)) i_Mo_readLines_367 rfl rfl ?_
    by_cases c7 : (σ.1.1 0 6) < (σ.1.1 0 7)
    · rw [if_pos c7] at h
      refine a_icf i_Mo_readLines_370 (Int32.not_le.mpr c7) ?_
      refine a_aload_n i_Mo_readLines_373 rfl ?_
      refine a_iconst i_Mo_readLines_374 ?_
      obtain ⟨v10, σ10, e10, h⟩ := am_bd_some h
      refine am_cvd (rest := []) [.int 1] c_Mo_readLines_375 ⟨by decide, _, rfl⟩ rfl (Nat.le_of_ble_eq_true rfl) (t_Mo_u e10) ?_
      refine a_l2i i_Mo_readLines_378 ?_
      refine a_istore i_Mo_readLines_379 rfl ?_
      refine a_aload_n i_Mo_readLines_381 rfl ?_
      refine a_iload i_Mo_readLines_382 rfl ?_
      obtain ⟨v15, σ15, e15, h⟩ := am_bd_some h
      refine am_cvd (rest := []) [.int v10.toInt32] c_Mo_readLines_384 ⟨by decide, _, rfl⟩ rfl (Nat.le_of_ble_eq_true rfl) (t_Mo_code e15) ?_
      refine a_istore i_Mo_readLines_387 rfl ?_
      refine a_goto i_Mo_readLines_389 ?_
      exact am_wk (ih h) ⟨Or.inr rfl, Or.inl rfl, Or.inl rfl, Or.inl rfl, Or.inr rfl, Or.inl rfl, Or.inl rfl, Or.inl rfl, Or.inl rfl, trivial⟩
    · rw [if_neg c7] at h
      refine a_ict i_Mo_readLines_370 (Int32.not_lt.mp c7) ?_
      exact t_Mo_readLines_392 h
def g_Mo_readLines_345 (x7 : Int32) (y0 : Int32) (σ : am_S) : Option (Int32 × am_S) :=
  am_bd (g_Mo_begin σ) fun _ σ3 =>
  g_Mo_readLines_357 4000 y0 (am_fi σ3 0 6 x7)
set_option maxHeartbeats 4000000 in
theorem t_Mo_readLines_345 {x7 : Int32} {y0 : Int32} {σ σ' : am_S} {r : Int32} (h : g_Mo_readLines_345 x7 y0 σ = some (r, σ')) : am_A S_m M_Mo_readLines (345, [some (.ref 0), none, none, none, none, none, none, some (.int x7), none], [.int y0], σ) (am_r S_m (fun q τ => q = some (.int r) ∧ τ = σ')) := by
  unfold g_Mo_readLines_345 at h
  refine a_istore i_Mo_readLines_345 rfl ?_
  refine a_aload_n i_Mo_readLines_347 rfl ?_
  obtain ⟨v3, σ3, e3, h⟩ := am_bd_some h
  refine am_cvd (rest := []) [] c_Mo_readLines_348 ⟨by decide, _, rfl⟩ rfl (Nat.le_of_ble_eq_true rfl) (t_Mo_begin e3) ?_
  refine a_aload_n i_Mo_readLines_351 rfl ?_
  refine a_iload i_Mo_readLines_352 rfl ?_
  refine a_puti i_Mo_readLines_354 rfl trivial ?_
  exact am_wk (t_Mo_readLines_357 4000 h) ⟨Or.inr rfl, Or.inl rfl, Or.inl rfl, Or.inl rfl, Or.inr rfl, Or.inl rfl, Or.inl rfl, Or.inl rfl, Or.inl rfl, trivial⟩
def g_Mo_readLines_344 (x7 : Int32) (σ : am_S) : Option (Int32 × am_S) :=
  g_Mo_readLines_345 x7 (0) σ
set_option maxHeartbeats 4000000 in
theorem t_Mo_readLines_344 {x7 : Int32} {σ σ' : am_S} {r : Int32} (h : g_Mo_readLines_344 x7 σ = some (r, σ')) : am_A S_m M_Mo_readLines (344, [some (.ref 0), none, none, none, none, none, none, some (.int x7), none], [], σ) (am_r S_m (fun q τ => q = some (.int r) ∧ τ = σ')) := by
  unfold g_Mo_readLines_344 at h
  refine a_iconst i_Mo_readLines_344 ?_
  exact t_Mo_readLines_345 h
def g_Mo_readLines_306 (x1 : Int32) (x7 : Int32) (y0 : Int32) (σ : am_S) : Option (Int32 × am_S) :=
  if y0 = 0 then
    g_Mo_readLines_344 x7 σ
  else
    am_bd (g_Mo_readTable x1 (0) σ) fun v7 σ7 =>
    if v7 = 0 then
      g_Mo_readLines_344 x7 σ7
    else
      am_bd (g_Mo_readTable x1 (1) σ7) fun v12 σ12 =>
      if v12 = 0 then
        g_Mo_readLines_344 x7 σ12
      else
        if x7 < (σ12.1.1 0 6) then
          g_Mo_readLines_344 x7 σ12
        else
          g_Mo_readLines_345 x7 (1) σ12
set_option maxHeartbeats 4000000 in
theorem t_Mo_readLines_306 {x1 : Int32} {x7 : Int32} {y0 : Int32} {σ σ' : am_S} {r : Int32} (h : g_Mo_readLines_306 x1 x7 y0 σ = some (r, σ')) : am_A S_m M_Mo_readLines (306, [some (.ref 0), some (.int x1), none, none, none, none, none, some (.int x7), none], [.int y0], σ) (am_r S_m (fun q τ => q = some (.int r) ∧ τ = σ')) := by
  unfold g_Mo_readLines_306 at h
  refine a_istore i_Mo_readLines_306 rfl ?_
  refine a_iload i_Mo_readLines_308 rfl ?_
  by_cases c3 : y0 = 0
  · rw [if_pos c3] at h
    refine a_ift i_Mo_readLines_310 c3 ?_
    exact am_wk (t_Mo_readLines_344 h) ⟨Or.inr rfl, Or.inl rfl, Or.inl rfl, Or.inl rfl, Or.inl rfl, Or.inl rfl, Or.inl rfl, Or.inr rfl, Or.inl rfl, trivial⟩
  · rw [if_neg c3] at h
    refine a_iff i_Mo_readLines_310 c3 ?_
    refine a_aload_n i_Mo_readLines_313 rfl ?_
    refine a_iload_n i_Mo_readLines_314 rfl ?_
    refine a_iconst i_Mo_readLines_315 ?_
    obtain ⟨v7, σ7, e7, h⟩ := am_bd_some h
    refine am_cvd (rest := []) [.int x1, .int 0] c_Mo_readLines_316 ⟨by decide, _, rfl⟩ rfl (Nat.le_of_ble_eq_true rfl) (t_Mo_readTable e7) ?_
    by_cases c8 : v7 = 0
    · rw [if_pos c8] at h
      refine a_ift i_Mo_readLines_319 c8 ?_
      exact am_wk (t_Mo_readLines_344 h) ⟨Or.inr rfl, Or.inl rfl, Or.inl rfl, Or.inl rfl, Or.inl rfl, Or.inl rfl, Or.inl rfl, Or.inr rfl, Or.inl rfl, trivial⟩
    · rw [if_neg c8] at h
      refine a_iff i_Mo_readLines_319 c8 ?_
      refine a_aload_n i_Mo_readLines_322 rfl ?_
      refine a_iload_n i_Mo_readLines_323 rfl ?_
      refine a_iconst i_Mo_readLines_324 ?_
      obtain ⟨v12, σ12, e12, h⟩ := am_bd_some h
      refine am_cvd (rest := []) [.int x1, .int 1] c_Mo_readLines_325 ⟨by decide, _, rfl⟩ rfl (Nat.le_of_ble_eq_true rfl) (t_Mo_readTable e12) ?_
      by_cases c13 : v12 = 0
      · rw [if_pos c13] at h
        refine a_ift i_Mo_readLines_328 c13 ?_
        exact am_wk (t_Mo_readLines_344 h) ⟨Or.inr rfl, Or.inl rfl, Or.inl rfl, Or.inl rfl, Or.inl rfl, Or.inl rfl, Or.inl rfl, Or.inr rfl, Or.inl rfl, trivial⟩
      · rw [if_neg c13] at h
        refine a_iff i_Mo_readLines_328 c13 ?_
        refine a_aload_n i_Mo_readLines_331 rfl ?_
        refine a_get (v := .int (σ12.1.1 0 6)) i_Mo_readLines_332 rfl rfl ?_
        refine a_iload i_Mo_readLines_335 rfl ?_
        by_cases c17 : x7 < (σ12.1.1 0 6)
        · rw [if_pos c17] at h
          refine a_ict i_Mo_readLines_337 c17 ?_
          exact am_wk (t_Mo_readLines_344 h) ⟨Or.inr rfl, Or.inl rfl, Or.inl rfl, Or.inl rfl, Or.inl rfl, Or.inl rfl, Or.inl rfl, Or.inr rfl, Or.inl rfl, trivial⟩
        · rw [if_neg c17] at h
          refine a_icf i_Mo_readLines_337 c17 ?_
          refine a_iconst i_Mo_readLines_340 ?_
          refine a_goto i_Mo_readLines_341 ?_
          exact am_wk (t_Mo_readLines_345 h) ⟨Or.inr rfl, Or.inl rfl, Or.inl rfl, Or.inl rfl, Or.inl rfl, Or.inl rfl, Or.inl rfl, Or.inr rfl, Or.inl rfl, trivial⟩
def g_Mo_readLines_305 (x1 : Int32) (x7 : Int32) (σ : am_S) : Option (Int32 × am_S) :=
  g_Mo_readLines_306 x1 x7 (0) σ
set_option maxHeartbeats 4000000 in
theorem t_Mo_readLines_305 {x1 : Int32} {x7 : Int32} {σ σ' : am_S} {r : Int32} (h : g_Mo_readLines_305 x1 x7 σ = some (r, σ')) : am_A S_m M_Mo_readLines (305, [some (.ref 0), some (.int x1), none, none, none, none, none, some (.int x7), none], [], σ) (am_r S_m (fun q τ => q = some (.int r) ∧ τ = σ')) := by
  unfold g_Mo_readLines_305 at h
  refine a_iconst i_Mo_readLines_305 ?_
  exact t_Mo_readLines_306 h
def g_Mo_readLines_208 (x1 : Int32) (x7 : Int32) (y0 : Int32) (σ : am_S) : Option (Int32 × am_S) :=
  am_bd (g_Mo_pass (1) σ) fun _ σ4 =>
  am_bd (g_Mo_u (1) σ4) fun v8 σ8 =>
  am_bd (g_Mo_u (1) (am_fi σ8 0 52 v8.toInt32.toInt8.toInt32)) fun v15 σ15 =>
  am_bd (g_Mo_u (1) (am_fi σ15 0 53 v15.toInt32)) fun v21 σ21 =>
  am_bd (g_Mo_pass (v21.toInt32.toInt64 - 1) (am_fi (am_fi σ21 0 50 v21.toInt32) 0 51 (σ21.1.1 0 6))) fun _ σ34 =>
  if y0 = 0 then
    g_Mo_readLines_305 x1 x7 σ34
  else
    if (σ34.1.1 0 8) = 0 then
      if 0 < (σ34.1.1 0 53) then
        am_bd (g_Mo_in ((σ34.1.1 0 50).toInt64) (10) (200) σ34) fun v48 σ48 =>
        if v48 = 0 then
          g_Mo_readLines_305 x1 x7 σ48
        else
          g_Mo_readLines_306 x1 x7 (1) σ48
      else
        g_Mo_readLines_305 x1 x7 σ34
    else
      g_Mo_readLines_305 x1 x7 σ34
set_option maxHeartbeats 4000000 in
theorem t_Mo_readLines_208 {x1 : Int32} {x7 : Int32} {y0 : Int32} {σ σ' : am_S} {r : Int32} (h : g_Mo_readLines_208 x1 x7 y0 σ = some (r, σ')) : am_A S_m M_Mo_readLines (208, [some (.ref 0), some (.int x1), none, none, none, none, none, some (.int x7), none], [.int y0], σ) (am_r S_m (fun q τ => q = some (.int r) ∧ τ = σ')) := by
  unfold g_Mo_readLines_208 at h
  refine a_istore i_Mo_readLines_208 rfl ?_
  refine a_aload_n i_Mo_readLines_210 rfl ?_
  refine a_lconst i_Mo_readLines_211 ?_
  obtain ⟨v4, σ4, e4, h⟩ := am_bd_some h
  refine am_cvd (rest := []) [.long 1] c_Mo_readLines_212 ⟨by decide, _, rfl⟩ rfl (Nat.le_of_ble_eq_true rfl) (t_Mo_pass e4) ?_
  refine a_aload_n i_Mo_readLines_215 rfl ?_
  refine a_aload_n i_Mo_readLines_216 rfl ?_
  refine a_iconst i_Mo_readLines_217 ?_
  obtain ⟨v8, σ8, e8, h⟩ := am_bd_some h
  refine am_cvd (rest := [.ref 0]) [.int 1] c_Mo_readLines_218 ⟨by decide, _, rfl⟩ rfl (Nat.le_of_ble_eq_true rfl) (t_Mo_u e8) ?_
  refine a_l2i i_Mo_readLines_221 ?_
  refine a_i2b i_Mo_readLines_222 ?_
  refine a_puti i_Mo_readLines_223 rfl trivial ?_
  refine a_aload_n i_Mo_readLines_226 rfl ?_
  refine a_aload_n i_Mo_readLines_227 rfl ?_
  refine a_iconst i_Mo_readLines_228 ?_
  obtain ⟨v15, σ15, e15, h⟩ := am_bd_some h
  refine am_cvd (rest := [.ref 0]) [.int 1] c_Mo_readLines_229 ⟨by decide, _, rfl⟩ rfl (Nat.le_of_ble_eq_true rfl) (t_Mo_u e15) ?_
  refine a_l2i i_Mo_readLines_232 ?_
  refine a_puti i_Mo_readLines_233 rfl trivial ?_
  refine a_aload_n i_Mo_readLines_236 rfl ?_
  refine a_aload_n i_Mo_readLines_237 rfl ?_
  refine a_iconst i_Mo_readLines_238 ?_
  obtain ⟨v21, σ21, e21, h⟩ := am_bd_some h
  refine am_cvd (rest := [.ref 0]) [.int 1] c_Mo_readLines_239 ⟨by decide, _, rfl⟩ rfl (Nat.le_of_ble_eq_true rfl) (t_Mo_u e21) ?_
  refine a_l2i i_Mo_readLines_242 ?_
  refine a_puti i_Mo_readLines_243 rfl trivial ?_
  refine a_aload_n i_Mo_readLines_246 rfl ?_
  refine a_aload_n i_Mo_readLines_247 rfl ?_
  refine a_get (v := .int (σ21.1.1 0 6)) i_Mo_readLines_248 rfl rfl ?_
  refine a_puti i_Mo_readLines_251 rfl trivial ?_
  refine a_aload_n i_Mo_readLines_254 rfl ?_
  refine a_aload_n i_Mo_readLines_255 rfl ?_
  refine a_get (v := .int v21.toInt32) i_Mo_readLines_256 rfl rfl ?_
  refine a_i2l i_Mo_readLines_259 ?_
  refine a_lconst i_Mo_readLines_260 ?_
  refine a_lsub i_Mo_readLines_261 ?_
  obtain ⟨v34, σ34, e34, h⟩ := am_bd_some h
  refine am_cvd (rest := []) [.long (v21.toInt32.toInt64 - 1)] c_Mo_readLines_262 ⟨by decide, _, rfl⟩ rfl (Nat.le_of_ble_eq_true rfl) (t_Mo_pass e34) ?_
  refine a_iload i_Mo_readLines_265 rfl ?_
  by_cases c36 : y0 = 0
  · rw [if_pos c36] at h
    refine a_ift i_Mo_readLines_267 c36 ?_
    exact am_wk (t_Mo_readLines_305 h) ⟨Or.inr rfl, Or.inr rfl, Or.inl rfl, Or.inl rfl, Or.inl rfl, Or.inl rfl, Or.inl rfl, Or.inr rfl, Or.inl rfl, trivial⟩
  · rw [if_neg c36] at h
    refine a_iff i_Mo_readLines_267 c36 ?_
    refine a_aload_n i_Mo_readLines_270 rfl ?_
    refine a_get (v := .int (σ34.1.1 0 8)) i_Mo_readLines_271 rfl rfl ?_
    by_cases c39 : (σ34.1.1 0 8) = 0
    · rw [if_pos c39] at h
      refine a_iff i_Mo_readLines_274 c39 ?_
      refine a_aload_n i_Mo_readLines_277 rfl ?_
      refine a_get (v := .int (σ34.1.1 0 53)) i_Mo_readLines_278 rfl rfl ?_
      by_cases c42 : 0 < (σ34.1.1 0 53)
      · rw [if_pos c42] at h
        refine a_iff i_Mo_readLines_281 (Int32.not_le.mpr c42) ?_
        refine a_aload_n i_Mo_readLines_284 rfl ?_
        refine a_get (v := .int (σ34.1.1 0 50)) i_Mo_readLines_285 rfl rfl ?_
        refine a_i2l i_Mo_readLines_288 ?_
        refine a_ldc2 i_Mo_readLines_289 ?_
        refine a_ldc2 i_Mo_readLines_292 ?_
        obtain ⟨v48, σ48, e48, h⟩ := am_bd_some h
        refine am_csd (rest := []) [.long ((σ34.1.1 0 50).toInt64), .long 10, .long 200] c_Mo_readLines_295 rfl (Nat.le_of_ble_eq_true rfl) (t_Mo_in e48) ?_
        by_cases c49 : v48 = 0
        · rw [if_pos c49] at h
          refine a_ift i_Mo_readLines_298 c49 ?_
          exact am_wk (t_Mo_readLines_305 h) ⟨Or.inr rfl, Or.inr rfl, Or.inl rfl, Or.inl rfl, Or.inl rfl, Or.inl rfl, Or.inl rfl, Or.inr rfl, Or.inl rfl, trivial⟩
        · rw [if_neg c49] at h
          refine a_iff i_Mo_readLines_298 c49 ?_
          refine a_iconst i_Mo_readLines_301 ?_
          refine a_goto i_Mo_readLines_302 ?_
          exact am_wk (t_Mo_readLines_306 h) ⟨Or.inr rfl, Or.inr rfl, Or.inl rfl, Or.inl rfl, Or.inl rfl, Or.inl rfl, Or.inl rfl, Or.inr rfl, Or.inl rfl, trivial⟩
      · rw [if_neg c42] at h
        refine a_ift i_Mo_readLines_281 (Int32.not_lt.mp c42) ?_
        exact am_wk (t_Mo_readLines_305 h) ⟨Or.inr rfl, Or.inr rfl, Or.inl rfl, Or.inl rfl, Or.inl rfl, Or.inl rfl, Or.inl rfl, Or.inr rfl, Or.inl rfl, trivial⟩
    · rw [if_neg c39] at h
      refine a_ift i_Mo_readLines_274 c39 ?_
      exact am_wk (t_Mo_readLines_305 h) ⟨Or.inr rfl, Or.inr rfl, Or.inl rfl, Or.inl rfl, Or.inl rfl, Or.inl rfl, Or.inl rfl, Or.inr rfl, Or.inl rfl, trivial⟩
def g_Mo_readLines_207 (x1 : Int32) (x7 : Int32) (σ : am_S) : Option (Int32 × am_S) :=
  g_Mo_readLines_208 x1 x7 (0) σ
set_option maxHeartbeats 4000000 in
theorem t_Mo_readLines_207 {x1 : Int32} {x7 : Int32} {σ σ' : am_S} {r : Int32} (h : g_Mo_readLines_207 x1 x7 σ = some (r, σ')) : am_A S_m M_Mo_readLines (207, [some (.ref 0), some (.int x1), none, none, none, none, none, some (.int x7), none], [], σ) (am_r S_m (fun q τ => q = some (.int r) ∧ τ = σ')) := by
  unfold g_Mo_readLines_207 at h
  refine a_iconst i_Mo_readLines_207 ?_
  exact t_Mo_readLines_208 h
def g_Mo_readLines_186 (x1 : Int32) (x7 : Int32) (y0 : Int32) (σ : am_S) : Option (Int32 × am_S) :=
  am_bd (g_Mo_u (1) σ) fun v4 σ4 =>
  if (lg_cmp v4 1) = 0 then
    if y0 = 0 then
      g_Mo_readLines_207 x1 x7 σ4
    else
      g_Mo_readLines_208 x1 x7 (1) σ4
  else
    g_Mo_readLines_207 x1 x7 σ4
set_option maxHeartbeats 4000000 in
theorem t_Mo_readLines_186 {x1 : Int32} {x7 : Int32} {y0 : Int32} {σ σ' : am_S} {r : Int32} (h : g_Mo_readLines_186 x1 x7 y0 σ = some (r, σ')) : am_A S_m M_Mo_readLines (186, [some (.ref 0), some (.int x1), none, none, none, none, none, some (.int x7), none], [.int y0], σ) (am_r S_m (fun q τ => q = some (.int r) ∧ τ = σ')) := by
  unfold g_Mo_readLines_186 at h
  refine a_istore i_Mo_readLines_186 rfl ?_
  refine a_aload_n i_Mo_readLines_188 rfl ?_
  refine a_iconst i_Mo_readLines_189 ?_
  obtain ⟨v4, σ4, e4, h⟩ := am_bd_some h
  refine am_cvd (rest := []) [.int 1] c_Mo_readLines_190 ⟨by decide, _, rfl⟩ rfl (Nat.le_of_ble_eq_true rfl) (t_Mo_u e4) ?_
  refine a_lconst i_Mo_readLines_193 ?_
  refine a_lcmp i_Mo_readLines_194 ?_
  by_cases c7 : (lg_cmp v4 1) = 0
  · rw [if_pos c7] at h
    refine a_iff i_Mo_readLines_195 c7 ?_
    refine a_iload i_Mo_readLines_198 rfl ?_
    by_cases c9 : y0 = 0
    · rw [if_pos c9] at h
      refine a_ift i_Mo_readLines_200 c9 ?_
      exact am_wk (t_Mo_readLines_207 h) ⟨Or.inr rfl, Or.inr rfl, Or.inl rfl, Or.inl rfl, Or.inl rfl, Or.inl rfl, Or.inl rfl, Or.inr rfl, Or.inl rfl, trivial⟩
    · rw [if_neg c9] at h
      refine a_iff i_Mo_readLines_200 c9 ?_
      refine a_iconst i_Mo_readLines_203 ?_
      refine a_goto i_Mo_readLines_204 ?_
      exact am_wk (t_Mo_readLines_208 h) ⟨Or.inr rfl, Or.inr rfl, Or.inl rfl, Or.inl rfl, Or.inl rfl, Or.inl rfl, Or.inl rfl, Or.inr rfl, Or.inl rfl, trivial⟩
  · rw [if_neg c7] at h
    refine a_ift i_Mo_readLines_195 c7 ?_
    exact am_wk (t_Mo_readLines_207 h) ⟨Or.inr rfl, Or.inr rfl, Or.inl rfl, Or.inl rfl, Or.inl rfl, Or.inl rfl, Or.inl rfl, Or.inr rfl, Or.inl rfl, trivial⟩
def g_Mo_readLines_122 (x1 : Int32) (y0 : Int32) (σ : am_S) : Option (Int32 × am_S) :=
  am_bd (g_Mo_u (4) σ) fun v4 σ4 =>
  if (σ4.1.1 0 8) = 0 then
    if y0 = 0 then
      g_Mo_readLines_159 σ4
    else
      if 0 < (lg_cmp v4 (((σ4.1.1 0 7) - (σ4.1.1 0 6)).toInt64)) then
        g_Mo_readLines_159 σ4
      else
        am_bd (g_Mo_u (1) σ4) fun v28 σ28 =>
        if (lg_cmp v28 1) = 0 then
          g_Mo_readLines_186 x1 ((σ4.1.1 0 6) + v4.toInt32) (1) σ28
        else
          g_Mo_readLines_186 x1 ((σ4.1.1 0 6) + v4.toInt32) (0) σ28
  else
    g_Mo_readLines_159 σ4
set_option maxHeartbeats 4000000 in
theorem t_Mo_readLines_122 {x1 : Int32} {y0 : Int32} {σ σ' : am_S} {r : Int32} (h : g_Mo_readLines_122 x1 y0 σ = some (r, σ')) : am_A S_m M_Mo_readLines (122, [some (.ref 0), some (.int x1), none, none, none, none, none, none, none], [.int y0], σ) (am_r S_m (fun q τ => q = some (.int r) ∧ τ = σ')) := by
  unfold g_Mo_readLines_122 at h
  refine a_istore i_Mo_readLines_122 rfl ?_
  refine a_aload_n i_Mo_readLines_124 rfl ?_
  refine a_iconst i_Mo_readLines_125 ?_
  obtain ⟨v4, σ4, e4, h⟩ := am_bd_some h
  refine am_cvd (rest := []) [.int 4] c_Mo_readLines_126 ⟨by decide, _, rfl⟩ rfl (Nat.le_of_ble_eq_true rfl) (t_Mo_u e4) ?_
  refine a_lstore i_Mo_readLines_129 rfl ?_
  refine a_aload_n i_Mo_readLines_131 rfl ?_
  refine a_get (v := .int (σ4.1.1 0 8)) i_Mo_readLines_132 rfl rfl ?_
  by_cases c8 : (σ4.1.1 0 8) = 0
  · rw [if_pos c8] at h
    refine a_iff i_Mo_readLines_135 c8 ?_
    refine a_iload i_Mo_readLines_138 rfl ?_
    by_cases c10 : y0 = 0
    · rw [if_pos c10] at h
      refine a_ift i_Mo_readLines_140 c10 ?_
      exact am_wk (t_Mo_readLines_159 h) ⟨Or.inl rfl, Or.inl rfl, Or.inl rfl, Or.inl rfl, Or.inl rfl, Or.inl rfl, Or.inl rfl, Or.inl rfl, Or.inl rfl, trivial⟩
    · rw [if_neg c10] at h
      refine a_iff i_Mo_readLines_140 c10 ?_
      refine a_lload i_Mo_readLines_143 rfl ?_
      refine a_aload_n i_Mo_readLines_145 rfl ?_
      refine a_get (v := .int (σ4.1.1 0 7)) i_Mo_readLines_146 rfl rfl ?_
      refine a_aload_n i_Mo_readLines_149 rfl ?_
      refine a_get (v := .int (σ4.1.1 0 6)) i_Mo_readLines_150 rfl rfl ?_
      refine a_isub i_Mo_readLines_153 ?_
      refine a_i2l i_Mo_readLines_154 ?_
      refine a_lcmp i_Mo_readLines_155 ?_
      by_cases c19 : 0 < (lg_cmp v4 (((σ4.1.1 0 7) - (σ4.1.1 0 6)).toInt64))
      · rw [if_pos c19] at h
        refine a_iff i_Mo_readLines_156 (Int32.not_le.mpr c19) ?_
        exact am_wk (t_Mo_readLines_159 h) ⟨Or.inl rfl, Or.inl rfl, Or.inl rfl, Or.inl rfl, Or.inl rfl, Or.inl rfl, Or.inl rfl, Or.inl rfl, Or.inl rfl, trivial⟩
      · rw [if_neg c19] at h
        refine a_ift i_Mo_readLines_156 (Int32.not_lt.mp c19) ?_
        refine a_aload_n i_Mo_readLines_161 rfl ?_
        refine a_get (v := .int (σ4.1.1 0 6)) i_Mo_readLines_162 rfl rfl ?_
        refine a_lload i_Mo_readLines_165 rfl ?_
        refine a_l2i i_Mo_readLines_167 ?_
        refine a_iadd i_Mo_readLines_168 ?_
        refine a_istore i_Mo_readLines_169 rfl ?_
        refine a_aload_n i_Mo_readLines_171 rfl ?_
        refine a_iconst i_Mo_readLines_172 ?_
        obtain ⟨v28, σ28, e28, h⟩ := am_bd_some h
        refine am_cvd (rest := []) [.int 1] c_Mo_readLines_173 ⟨by decide, _, rfl⟩ rfl (Nat.le_of_ble_eq_true rfl) (t_Mo_u e28) ?_
        refine a_lconst i_Mo_readLines_176 ?_
        refine a_lcmp i_Mo_readLines_177 ?_
        by_cases c31 : (lg_cmp v28 1) = 0
        · rw [if_pos c31] at h
          refine a_iff i_Mo_readLines_178 c31 ?_
          refine a_iconst i_Mo_readLines_181 ?_
          refine a_goto i_Mo_readLines_182 ?_
          exact am_wk (t_Mo_readLines_186 h) ⟨Or.inr rfl, Or.inr rfl, Or.inl rfl, Or.inl rfl, Or.inl rfl, Or.inl rfl, Or.inl rfl, Or.inr rfl, Or.inl rfl, trivial⟩
        · rw [if_neg c31] at h
          refine a_ift i_Mo_readLines_178 c31 ?_
          refine a_iconst i_Mo_readLines_185 ?_
          exact am_wk (t_Mo_readLines_186 h) ⟨Or.inr rfl, Or.inr rfl, Or.inl rfl, Or.inl rfl, Or.inl rfl, Or.inl rfl, Or.inl rfl, Or.inr rfl, Or.inl rfl, trivial⟩
  · rw [if_neg c8] at h
    refine a_ift i_Mo_readLines_135 c8 ?_
    exact am_wk (t_Mo_readLines_159 h) ⟨Or.inl rfl, Or.inl rfl, Or.inl rfl, Or.inl rfl, Or.inl rfl, Or.inl rfl, Or.inl rfl, Or.inl rfl, Or.inl rfl, trivial⟩
def g_Mo_readLines_121 (x1 : Int32) (σ : am_S) : Option (Int32 × am_S) :=
  g_Mo_readLines_122 x1 (0) σ
set_option maxHeartbeats 4000000 in
theorem t_Mo_readLines_121 {x1 : Int32} {σ σ' : am_S} {r : Int32} (h : g_Mo_readLines_121 x1 σ = some (r, σ')) : am_A S_m M_Mo_readLines (121, [some (.ref 0), some (.int x1), none, none, none, none, none, none, none], [], σ) (am_r S_m (fun q τ => q = some (.int r) ∧ τ = σ')) := by
  unfold g_Mo_readLines_121 at h
  refine a_iconst i_Mo_readLines_121 ?_
  exact t_Mo_readLines_122 h
def g_Mo_readLines_100 (x1 : Int32) (y0 : Int32) (σ : am_S) : Option (Int32 × am_S) :=
  am_bd (g_Mo_u (1) σ) fun v4 σ4 =>
  if (lg_cmp v4 0) = 0 then
    if y0 = 0 then
      g_Mo_readLines_121 x1 σ4
    else
      g_Mo_readLines_122 x1 (1) σ4
  else
    g_Mo_readLines_121 x1 σ4
set_option maxHeartbeats 4000000 in
theorem t_Mo_readLines_100 {x1 : Int32} {y0 : Int32} {σ σ' : am_S} {r : Int32} (h : g_Mo_readLines_100 x1 y0 σ = some (r, σ')) : am_A S_m M_Mo_readLines (100, [some (.ref 0), some (.int x1), none, none, none, none, none, none, none], [.int y0], σ) (am_r S_m (fun q τ => q = some (.int r) ∧ τ = σ')) := by
  unfold g_Mo_readLines_100 at h
  refine a_istore i_Mo_readLines_100 rfl ?_
  refine a_aload_n i_Mo_readLines_102 rfl ?_
  refine a_iconst i_Mo_readLines_103 ?_
  obtain ⟨v4, σ4, e4, h⟩ := am_bd_some h
  refine am_cvd (rest := []) [.int 1] c_Mo_readLines_104 ⟨by decide, _, rfl⟩ rfl (Nat.le_of_ble_eq_true rfl) (t_Mo_u e4) ?_
  refine a_lconst i_Mo_readLines_107 ?_
  refine a_lcmp i_Mo_readLines_108 ?_
  by_cases c7 : (lg_cmp v4 0) = 0
  · rw [if_pos c7] at h
    refine a_iff i_Mo_readLines_109 c7 ?_
    refine a_iload i_Mo_readLines_112 rfl ?_
    by_cases c9 : y0 = 0
    · rw [if_pos c9] at h
      refine a_ift i_Mo_readLines_114 c9 ?_
      exact am_wk (t_Mo_readLines_121 h) ⟨Or.inr rfl, Or.inr rfl, Or.inl rfl, Or.inl rfl, Or.inl rfl, Or.inl rfl, Or.inl rfl, Or.inl rfl, Or.inl rfl, trivial⟩
    · rw [if_neg c9] at h
      refine a_iff i_Mo_readLines_114 c9 ?_
      refine a_iconst i_Mo_readLines_117 ?_
      refine a_goto i_Mo_readLines_118 ?_
      exact am_wk (t_Mo_readLines_122 h) ⟨Or.inr rfl, Or.inr rfl, Or.inl rfl, Or.inl rfl, Or.inl rfl, Or.inl rfl, Or.inl rfl, Or.inl rfl, Or.inl rfl, trivial⟩
  · rw [if_neg c7] at h
    refine a_ift i_Mo_readLines_109 c7 ?_
    exact am_wk (t_Mo_readLines_121 h) ⟨Or.inr rfl, Or.inr rfl, Or.inl rfl, Or.inl rfl, Or.inl rfl, Or.inl rfl, Or.inl rfl, Or.inl rfl, Or.inl rfl, trivial⟩
def g_Mo_readLines_99 (x1 : Int32) (σ : am_S) : Option (Int32 × am_S) :=
  g_Mo_readLines_100 x1 (0) σ
set_option maxHeartbeats 4000000 in
theorem t_Mo_readLines_99 {x1 : Int32} {σ σ' : am_S} {r : Int32} (h : g_Mo_readLines_99 x1 σ = some (r, σ')) : am_A S_m M_Mo_readLines (99, [some (.ref 0), some (.int x1), none, none, none, none, none, none, none], [], σ) (am_r S_m (fun q τ => q = some (.int r) ∧ τ = σ')) := by
  unfold g_Mo_readLines_99 at h
  refine a_iconst i_Mo_readLines_99 ?_
  exact t_Mo_readLines_100 h
def g_Mo_readLines_76 (x1 : Int32) (y0 : Int32) (σ : am_S) : Option (Int32 × am_S) :=
  am_bd (g_Mo_u (1) σ) fun v4 σ4 =>
  if (lg_cmp v4 8) = 0 then
    if y0 = 0 then
      g_Mo_readLines_99 x1 σ4
    else
      g_Mo_readLines_100 x1 (1) σ4
  else
    g_Mo_readLines_99 x1 σ4
set_option maxHeartbeats 4000000 in
theorem t_Mo_readLines_76 {x1 : Int32} {y0 : Int32} {σ σ' : am_S} {r : Int32} (h : g_Mo_readLines_76 x1 y0 σ = some (r, σ')) : am_A S_m M_Mo_readLines (76, [some (.ref 0), some (.int x1), none, none, none, none, none, none, none], [.int y0], σ) (am_r S_m (fun q τ => q = some (.int r) ∧ τ = σ')) := by
  unfold g_Mo_readLines_76 at h
  refine a_istore i_Mo_readLines_76 rfl ?_
  refine a_aload_n i_Mo_readLines_78 rfl ?_
  refine a_iconst i_Mo_readLines_79 ?_
  obtain ⟨v4, σ4, e4, h⟩ := am_bd_some h
  refine am_cvd (rest := []) [.int 1] c_Mo_readLines_80 ⟨by decide, _, rfl⟩ rfl (Nat.le_of_ble_eq_true rfl) (t_Mo_u e4) ?_
  refine a_ldc2 i_Mo_readLines_83 ?_
  refine a_lcmp i_Mo_readLines_86 ?_
  by_cases c7 : (lg_cmp v4 8) = 0
  · rw [if_pos c7] at h
    refine a_iff i_Mo_readLines_87 c7 ?_
    refine a_iload i_Mo_readLines_90 rfl ?_
    by_cases c9 : y0 = 0
    · rw [if_pos c9] at h
      refine a_ift i_Mo_readLines_92 c9 ?_
      exact am_wk (t_Mo_readLines_99 h) ⟨Or.inr rfl, Or.inr rfl, Or.inl rfl, Or.inl rfl, Or.inl rfl, Or.inl rfl, Or.inl rfl, Or.inl rfl, Or.inl rfl, trivial⟩
    · rw [if_neg c9] at h
      refine a_iff i_Mo_readLines_92 c9 ?_
      refine a_iconst i_Mo_readLines_95 ?_
      refine a_goto i_Mo_readLines_96 ?_
      exact am_wk (t_Mo_readLines_100 h) ⟨Or.inr rfl, Or.inr rfl, Or.inl rfl, Or.inl rfl, Or.inl rfl, Or.inl rfl, Or.inl rfl, Or.inl rfl, Or.inl rfl, trivial⟩
  · rw [if_neg c7] at h
    refine a_ift i_Mo_readLines_87 c7 ?_
    exact am_wk (t_Mo_readLines_99 h) ⟨Or.inr rfl, Or.inr rfl, Or.inl rfl, Or.inl rfl, Or.inl rfl, Or.inl rfl, Or.inl rfl, Or.inl rfl, Or.inl rfl, trivial⟩
def g_Mo_readLines (x1 : Int32) (σ : am_S) : Option (Int32 × am_S) :=
  am_gd (inb x1 4) <|
  am_bd (g_Mo_valueAt (σ.2.1 14 x1.toNatClampNeg) (7) σ) fun v9 σ9 =>
  am_bd (g_Mo_enter (7) v9 σ9) fun _ σ10 =>
  am_bd (g_Mo_u (4) σ10) fun v13 σ13 =>
  if (σ13.1.1 0 8) = 0 then
    if 0 < (lg_cmp v13 (((σ13.1.1 0 7) - (σ13.1.1 0 6)).toInt64)) then
      g_Mo_readLines_46 σ13
    else
      am_bd (g_Mo_u (2) (am_fi σ13 0 7 ((σ13.1.1 0 6) + v13.toInt32))) fun v36 σ36 =>
      if (lg_cmp v36 5) = 0 then
        g_Mo_readLines_76 x1 (1) σ36
      else
        g_Mo_readLines_76 x1 (0) σ36
  else
    g_Mo_readLines_46 σ13
set_option maxHeartbeats 4000000 in
theorem t_Mo_readLines_0 {x1 : Int32} {σ σ' : am_S} {r : Int32} (h : g_Mo_readLines x1 σ = some (r, σ')) : am_A S_m M_Mo_readLines (0, [some (.ref 0), some (.int x1), none, none, none, none, none, none, none], [], σ) (am_r S_m (fun q τ => q = some (.int r) ∧ τ = σ')) := by
  unfold g_Mo_readLines at h
  refine a_aload_n i_Mo_readLines_0 rfl ?_
  refine a_bipush i_Mo_readLines_1 ?_
  refine a_aload_n i_Mo_readLines_3 rfl ?_
  refine a_aload_n i_Mo_readLines_4 rfl ?_
  refine a_get (v := .ref 14) i_Mo_readLines_5 rfl rfl ?_
  refine a_iload_n i_Mo_readLines_8 rfl ?_
  obtain ⟨c7, h⟩ := gd_some h
  refine a_ial (n := 4) i_Mo_readLines_9 (by decide) rfl rfl (inb_in c7) ?_
  refine a_bipush i_Mo_readLines_10 ?_
  obtain ⟨v9, σ9, e9, h⟩ := am_bd_some h
  refine am_cvd (rest := [.int 7, .ref 0]) [.int (σ.2.1 14 x1.toNatClampNeg), .int 7] c_Mo_readLines_12 ⟨by decide, _, rfl⟩ rfl (Nat.le_of_ble_eq_true rfl) (t_Mo_valueAt e9) ?_
  obtain ⟨v10, σ10, e10, h⟩ := am_bd_some h
  refine am_cvd (rest := []) [.int 7, .long v9] c_Mo_readLines_15 ⟨by decide, _, rfl⟩ rfl (Nat.le_of_ble_eq_true rfl) (t_Mo_enter e10) ?_
  refine a_aload_n i_Mo_readLines_18 rfl ?_
  refine a_iconst i_Mo_readLines_19 ?_
  obtain ⟨v13, σ13, e13, h⟩ := am_bd_some h
  refine am_cvd (rest := []) [.int 4] c_Mo_readLines_20 ⟨by decide, _, rfl⟩ rfl (Nat.le_of_ble_eq_true rfl) (t_Mo_u e13) ?_
  refine a_lstore_n i_Mo_readLines_23 rfl ?_
  refine a_aload_n i_Mo_readLines_24 rfl ?_
  refine a_get (v := .int (σ13.1.1 0 8)) i_Mo_readLines_25 rfl rfl ?_
  by_cases c17 : (σ13.1.1 0 8) = 0
  · rw [if_pos c17] at h
    refine a_iff i_Mo_readLines_28 c17 ?_
    refine a_lload_n i_Mo_readLines_31 rfl ?_
    refine a_aload_n i_Mo_readLines_32 rfl ?_
    refine a_get (v := .int (σ13.1.1 0 7)) i_Mo_readLines_33 rfl rfl ?_
    refine a_aload_n i_Mo_readLines_36 rfl ?_
    refine a_get (v := .int (σ13.1.1 0 6)) i_Mo_readLines_37 rfl rfl ?_
    refine a_isub i_Mo_readLines_40 ?_
    refine a_i2l i_Mo_readLines_41 ?_
    refine a_lcmp i_Mo_readLines_42 ?_
    by_cases c26 : 0 < (lg_cmp v13 (((σ13.1.1 0 7) - (σ13.1.1 0 6)).toInt64))
    · rw [if_pos c26] at h
      refine a_iff i_Mo_readLines_43 (Int32.not_le.mpr c26) ?_
      exact am_wk (t_Mo_readLines_46 h) ⟨Or.inl rfl, Or.inl rfl, Or.inl rfl, Or.inl rfl, Or.inl rfl, Or.inl rfl, Or.inl rfl, Or.inl rfl, Or.inl rfl, trivial⟩
    · rw [if_neg c26] at h
      refine a_ift i_Mo_readLines_43 (Int32.not_lt.mp c26) ?_
      refine a_aload_n i_Mo_readLines_48 rfl ?_
      refine a_aload_n i_Mo_readLines_49 rfl ?_
      refine a_get (v := .int (σ13.1.1 0 6)) i_Mo_readLines_50 rfl rfl ?_
      refine a_lload_n i_Mo_readLines_53 rfl ?_
      refine a_l2i i_Mo_readLines_54 ?_
      refine a_iadd i_Mo_readLines_55 ?_
      refine a_puti i_Mo_readLines_56 rfl trivial ?_
      refine a_aload_n i_Mo_readLines_59 rfl ?_
      refine a_iconst i_Mo_readLines_60 ?_
      obtain ⟨v36, σ36, e36, h⟩ := am_bd_some h
      refine am_cvd (rest := []) [.int 2] c_Mo_readLines_61 ⟨by decide, _, rfl⟩ rfl (Nat.le_of_ble_eq_true rfl) (t_Mo_u e36) ?_
      refine a_ldc2 i_Mo_readLines_64 ?_
      refine a_lcmp i_Mo_readLines_67 ?_
      by_cases c39 : (lg_cmp v36 5) = 0
      · rw [if_pos c39] at h
        refine a_iff i_Mo_readLines_68 c39 ?_
        refine a_iconst i_Mo_readLines_71 ?_
        refine a_goto i_Mo_readLines_72 ?_
        exact am_wk (t_Mo_readLines_76 h) ⟨Or.inr rfl, Or.inr rfl, Or.inl rfl, Or.inl rfl, Or.inl rfl, Or.inl rfl, Or.inl rfl, Or.inl rfl, Or.inl rfl, trivial⟩
      · rw [if_neg c39] at h
        refine a_ift i_Mo_readLines_68 c39 ?_
        refine a_iconst i_Mo_readLines_75 ?_
        exact am_wk (t_Mo_readLines_76 h) ⟨Or.inr rfl, Or.inr rfl, Or.inl rfl, Or.inl rfl, Or.inl rfl, Or.inl rfl, Or.inl rfl, Or.inl rfl, Or.inl rfl, trivial⟩
  · rw [if_neg c17] at h
    refine a_ift i_Mo_readLines_28 c17 ?_
    exact am_wk (t_Mo_readLines_46 h) ⟨Or.inl rfl, Or.inl rfl, Or.inl rfl, Or.inl rfl, Or.inl rfl, Or.inl rfl, Or.inl rfl, Or.inl rfl, Or.inl rfl, trivial⟩
theorem t_Mo_readLines {x1 : Int32} {σ σ' : am_S} {r : Int32} (h : g_Mo_readLines x1 σ = some (r, σ')) : am_Mt S_m M_Mo_readLines [.ref 0, .int x1] σ (fun q τ => q = some (.int r) ∧ τ = σ') :=
  am_M_of ok_Mo_readLines (Nat.le_of_ble_eq_true rfl) (t_Mo_readLines_0 h)
def g_Mo_readAllLines_61 (go : Int32 → Int32 → am_S → Option (Int32 × am_S)) (x2 : Int32) (y0 : Int32) (σ : am_S) : Option (Int32 × am_S) :=
  go y0 (x2 + 1) σ
set_option maxHeartbeats 4000000 in
theorem t_Mo_readAllLines_61 {x2 : Int32} {y0 : Int32} {σ σ' : am_S} {r : Int32} {go : Int32 → Int32 → am_S → Option (Int32 × am_S)} (hgo : ∀ {x1 : Int32} {x2 : Int32} {σ σ' : am_S} {r : Int32}, go x1 x2 σ = some (r, σ') → am_A S_m M_Mo_readAllLines (4, [some (.ref 0), some (.int x1), some (.int x2)], [], σ) (am_r S_m (fun q τ => q = some (.int r) ∧ τ = σ'))) (h : g_Mo_readAllLines_61 go x2 y0 σ = some (r, σ')) : am_A S_m M_Mo_readAllLines (61, [some (.ref 0), none, some (.int x2)], [.int y0], σ) (am_r S_m (fun q τ => q = some (.int r) ∧ τ = σ')) := by
  unfold g_Mo_readAllLines_61 at h
  refine a_istore_n i_Mo_readAllLines_61 rfl ?_
  refine a_iinc i_Mo_readAllLines_62 rfl rfl ?_
  refine a_goto i_Mo_readAllLines_65 ?_
  exact hgo h
def g_Mo_readAllLines_56 (go : Int32 → Int32 → am_S → Option (Int32 × am_S)) (x2 : Int32) (σ : am_S) : Option (Int32 × am_S) :=
  g_Mo_readAllLines_61 go x2 (1) σ
set_option maxHeartbeats 4000000 in
theorem t_Mo_readAllLines_56 {x2 : Int32} {σ σ' : am_S} {r : Int32} {go : Int32 → Int32 → am_S → Option (Int32 × am_S)} (hgo : ∀ {x1 : Int32} {x2 : Int32} {σ σ' : am_S} {r : Int32}, go x1 x2 σ = some (r, σ') → am_A S_m M_Mo_readAllLines (4, [some (.ref 0), some (.int x1), some (.int x2)], [], σ) (am_r S_m (fun q τ => q = some (.int r) ∧ τ = σ'))) (h : g_Mo_readAllLines_56 go x2 σ = some (r, σ')) : am_A S_m M_Mo_readAllLines (56, [some (.ref 0), none, some (.int x2)], [], σ) (am_r S_m (fun q τ => q = some (.int r) ∧ τ = σ')) := by
  unfold g_Mo_readAllLines_56 at h
  refine a_iconst i_Mo_readAllLines_56 ?_
  refine a_goto i_Mo_readAllLines_57 ?_
  exact t_Mo_readAllLines_61 hgo h
def g_Mo_readAllLines_68 (x1 : Int32) (σ : am_S) : Option (Int32 × am_S) :=
  am_gd (inb (σ.1.1 0 21) 5) <|
  am_gd (z01 x1) <|
  some (x1, am_ai σ 28 (σ.1.1 0 21).toNatClampNeg (σ.1.1 0 38))
set_option maxHeartbeats 4000000 in
theorem t_Mo_readAllLines_68 {x1 : Int32} {σ σ' : am_S} {r : Int32} (h : g_Mo_readAllLines_68 x1 σ = some (r, σ')) : am_A S_m M_Mo_readAllLines (68, [some (.ref 0), some (.int x1), none], [], σ) (am_r S_m (fun q τ => q = some (.int r) ∧ τ = σ')) := by
  unfold g_Mo_readAllLines_68 at h
  refine a_aload_n i_Mo_readAllLines_68 rfl ?_
  refine a_get (v := .ref 28) i_Mo_readAllLines_69 rfl rfl ?_
  refine a_aload_n i_Mo_readAllLines_72 rfl ?_
  refine a_get (v := .int (σ.1.1 0 21)) i_Mo_readAllLines_73 rfl rfl ?_
  refine a_aload_n i_Mo_readAllLines_76 rfl ?_
  refine a_get (v := .int (σ.1.1 0 38)) i_Mo_readAllLines_77 rfl rfl ?_
  obtain ⟨c7, h⟩ := gd_some h
  refine a_ias (n := 5) i_Mo_readAllLines_80 rfl rfl (inb_in c7) ?_
  refine a_iload_n i_Mo_readAllLines_81 rfl ?_
  obtain ⟨c9, h⟩ := gd_some h
  exact am_ret_z ok_Mo_readAllLines rfl rfl (z01_or c9) (am_lf_i h)
def g_Mo_readAllLines_4 : Nat → Int32 → Int32 → am_S → Option (Int32 × am_S)
  | 0, _, _, _ => none
  | n + 1, x1, x2, σ =>
  if x2 < (σ.1.1 0 21) then
    if x1 = 0 then
      g_Mo_readAllLines_68 x1 σ
    else
      am_gd (inb x2 5) <|
      am_gd (inb x2 4) <|
      am_gd (inb x2 4) <|
      am_bd (g_Mo_has ((am_ai (am_ai σ 28 x2.toNatClampNeg (σ.1.1 0 38)) 25 x2.toNatClampNeg 0).2.1 14 x2.toNatClampNeg) (7) (am_ai (am_ai σ 28 x2.toNatClampNeg (σ.1.1 0 38)) 25 x2.toNatClampNeg 0)) fun v24 σ24 =>
      if v24 = 0 then
        g_Mo_readAllLines_56 (g_Mo_readAllLines_4 n) x2 σ24
      else
        am_bd (g_Mo_readLines x2 σ24) fun v28 σ28 =>
        if v28 = 0 then
          g_Mo_readAllLines_61 (g_Mo_readAllLines_4 n) x2 (0) σ28
        else
          g_Mo_readAllLines_56 (g_Mo_readAllLines_4 n) x2 σ28
  else
    g_Mo_readAllLines_68 x1 σ
set_option maxHeartbeats 4000000 in
theorem t_Mo_readAllLines_4 : ∀ (n : Nat) {x1 : Int32} {x2 : Int32} {σ σ' : am_S} {r : Int32} (h : g_Mo_readAllLines_4 n x1 x2 σ = some (r, σ')), am_A S_m M_Mo_readAllLines (4, [some (.ref 0), some (.int x1), some (.int x2)], [], σ) (am_r S_m (fun q τ => q = some (.int r) ∧ τ = σ')) := by
  intro n
  induction n with
  | zero =>
    intro x1 x2 σ σ' r h
    cases h
  | succ n ih =>
  intro x1 x2 σ σ' r h
  unfold g_Mo_readAllLines_4 at h
  refine a_iload_n i_Mo_readAllLines_4 rfl ?_
  refine a_aload_n i_Mo_readAllLines_5 rfl ?_
  refine a_get (v := .int (σ.1.1 0 21)) i_Mo_readAllLines_6 rfl rfl ?_
  by_cases c4 : x2 < (σ.1.1 0 21)
  · rw [if_pos c4] at h
    refine a_icf i_Mo_readAllLines_9 (Int32.not_le.mpr c4) ?_
    refine a_iload_n i_Mo_readAllLines_12 rfl ?_
    by_cases c6 : x1 = 0
    · rw [if_pos c6] at h
      refine a_ift i_Mo_readAllLines_13 c6 ?_
      exact am_wk (t_Mo_readAllLines_68 h) ⟨Or.inr rfl, Or.inr rfl, Or.inl rfl, trivial⟩
    · rw [if_neg c6] at h
      refine a_iff i_Mo_readAllLines_13 c6 ?_
      refine a_aload_n i_Mo_readAllLines_16 rfl ?_
      refine a_get (v := .ref 28) i_Mo_readAllLines_17 rfl rfl ?_
      refine a_iload_n i_Mo_readAllLines_20 rfl ?_
      refine a_aload_n i_Mo_readAllLines_21 rfl ?_
      refine a_get (v := .int (σ.1.1 0 38)) i_Mo_readAllLines_22 rfl rfl ?_
      obtain ⟨c12, h⟩ := gd_some h
      refine a_ias (n := 5) i_Mo_readAllLines_25 rfl rfl (inb_in c12) ?_
      refine a_aload_n i_Mo_readAllLines_26 rfl ?_
      refine a_get (v := .ref 25) i_Mo_readAllLines_27 rfl rfl ?_
      refine a_iload_n i_Mo_readAllLines_30 rfl ?_
      refine a_iconst i_Mo_readAllLines_31 ?_
      obtain ⟨c17, h⟩ := gd_some h
      refine a_ias (n := 4) i_Mo_readAllLines_32 rfl rfl (inb_in c17) ?_
      refine a_aload_n i_Mo_readAllLines_33 rfl ?_
      refine a_aload_n i_Mo_readAllLines_34 rfl ?_
      refine a_get (v := .ref 14) i_Mo_readAllLines_35 rfl rfl ?_
      refine a_iload_n i_Mo_readAllLines_38 rfl ?_
      obtain ⟨c22, h⟩ := gd_some h
      refine a_ial (n := 4) i_Mo_readAllLines_39 (by decide) rfl rfl (inb_in c22) ?_
      refine a_bipush i_Mo_readAllLines_40 ?_
      obtain ⟨v24, σ24, e24, h⟩ := am_bd_some h
      refine am_cvd (rest := []) [.int ((am_ai (am_ai σ 28 x2.toNatClampNeg (σ.1.1 0 38)) 25 x2.toNatClampNeg 0).2.1 14 x2.toNatClampNeg), .int 7] c_Mo_readAllLines_42 ⟨by decide, _, rfl⟩ rfl (Nat.le_of_ble_eq_true rfl) (t_Mo_has e24) ?_
      by_cases c25 : v24 = 0
      · rw [if_pos c25] at h
        refine a_ift i_Mo_readAllLines_45 c25 ?_
        exact am_wk (t_Mo_readAllLines_56 (fun h => ih h) h) ⟨Or.inr rfl, Or.inl rfl, Or.inr rfl, trivial⟩
      · rw [if_neg c25] at h
        refine a_iff i_Mo_readAllLines_45 c25 ?_
        refine a_aload_n i_Mo_readAllLines_48 rfl ?_
        refine a_iload_n i_Mo_readAllLines_49 rfl ?_
        obtain ⟨v28, σ28, e28, h⟩ := am_bd_some h
        refine am_cvd (rest := []) [.int x2] c_Mo_readAllLines_50 ⟨by decide, _, rfl⟩ rfl (Nat.le_of_ble_eq_true rfl) (t_Mo_readLines e28) ?_
        by_cases c29 : v28 = 0
        · rw [if_pos c29] at h
          refine a_ift i_Mo_readAllLines_53 c29 ?_
          refine a_iconst i_Mo_readAllLines_60 ?_
          exact am_wk (t_Mo_readAllLines_61 (fun h => ih h) h) ⟨Or.inr rfl, Or.inl rfl, Or.inr rfl, trivial⟩
        · rw [if_neg c29] at h
          refine a_iff i_Mo_readAllLines_53 c29 ?_
          exact am_wk (t_Mo_readAllLines_56 (fun h => ih h) h) ⟨Or.inr rfl, Or.inl rfl, Or.inr rfl, trivial⟩
  · rw [if_neg c4] at h
    refine a_ict i_Mo_readAllLines_9 (Int32.not_lt.mp c4) ?_
    exact am_wk (t_Mo_readAllLines_68 h) ⟨Or.inr rfl, Or.inr rfl, Or.inl rfl, trivial⟩
def g_Mo_readAllLines (σ : am_S) : Option (Int32 × am_S) :=
  g_Mo_readAllLines_4 4000 (1) (0) σ
set_option maxHeartbeats 4000000 in
theorem t_Mo_readAllLines_0 {σ σ' : am_S} {r : Int32} (h : g_Mo_readAllLines σ = some (r, σ')) : am_A S_m M_Mo_readAllLines (0, [some (.ref 0), none, none], [], σ) (am_r S_m (fun q τ => q = some (.int r) ∧ τ = σ')) := by
  unfold g_Mo_readAllLines at h
  refine a_iconst i_Mo_readAllLines_0 ?_
  refine a_istore_n i_Mo_readAllLines_1 rfl ?_
  refine a_iconst i_Mo_readAllLines_2 ?_
  refine a_istore_n i_Mo_readAllLines_3 rfl ?_
  exact t_Mo_readAllLines_4 4000 h
theorem t_Mo_readAllLines {σ σ' : am_S} {r : Int32} (h : g_Mo_readAllLines σ = some (r, σ')) : am_Mt S_m M_Mo_readAllLines [.ref 0] σ (fun q τ => q = some (.int r) ∧ τ = σ') :=
  am_M_of ok_Mo_readAllLines (Nat.le_of_ble_eq_true rfl) (t_Mo_readAllLines_0 h)
def g_Mo_readSymbols_88 (go : Int32 → Int32 → am_S → Option (Int32 × am_S)) (x2 : Int32) (y0 : Int32) (σ : am_S) : Option (Int32 × am_S) :=
  go y0 (x2 + 1) σ
set_option maxHeartbeats 4000000 in
theorem t_Mo_readSymbols_88 {x2 : Int32} {y0 : Int32} {σ σ' : am_S} {r : Int32} {go : Int32 → Int32 → am_S → Option (Int32 × am_S)} (hgo : ∀ {x1 : Int32} {x2 : Int32} {σ σ' : am_S} {r : Int32}, go x1 x2 σ = some (r, σ') → am_A S_m M_Mo_readSymbols (44, [some (.ref 0), some (.int x1), some (.int x2)], [], σ) (am_r S_m (fun q τ => q = some (.int r) ∧ τ = σ'))) (h : g_Mo_readSymbols_88 go x2 y0 σ = some (r, σ')) : am_A S_m M_Mo_readSymbols (88, [some (.ref 0), none, some (.int x2)], [.int y0], σ) (am_r S_m (fun q τ => q = some (.int r) ∧ τ = σ')) := by
  unfold g_Mo_readSymbols_88 at h
  refine a_istore_n i_Mo_readSymbols_88 rfl ?_
  refine a_iinc i_Mo_readSymbols_89 rfl rfl ?_
  refine a_goto i_Mo_readSymbols_92 ?_
  exact hgo h
def g_Mo_readSymbols_95 (x1 : Int32) (σ : am_S) : Option (Int32 × am_S) :=
  am_gd (z01 x1) <|
  some (x1, σ)
set_option maxHeartbeats 4000000 in
theorem t_Mo_readSymbols_95 {x1 : Int32} {σ σ' : am_S} {r : Int32} (h : g_Mo_readSymbols_95 x1 σ = some (r, σ')) : am_A S_m M_Mo_readSymbols (95, [none, some (.int x1), none], [], σ) (am_r S_m (fun q τ => q = some (.int r) ∧ τ = σ')) := by
  unfold g_Mo_readSymbols_95 at h
  refine a_iload_n i_Mo_readSymbols_95 rfl ?_
  obtain ⟨c2, h⟩ := gd_some h
  exact am_ret_z ok_Mo_readSymbols rfl rfl (z01_or c2) (am_lf_i h)
def g_Mo_readSymbols_44 : Nat → Int32 → Int32 → am_S → Option (Int32 × am_S)
  | 0, _, _, _ => none
  | n + 1, x1, x2, σ =>
  if x2 < (σ.1.1 0 54) then
    if x1 = 0 then
      g_Mo_readSymbols_95 x1 σ
    else
      am_gd (inb 8 10) <|
      am_bd (g_Mo_peek ((σ.2.1 3 (8 : Int32).toNatClampNeg) + (24 * x2)) (4) σ) fun v19 σ19 =>
      am_bd (g_Mo_textIn (9) v19 σ19) fun v20 σ20 =>
      if v20 = (-1) then
        g_Mo_readSymbols_88 (g_Mo_readSymbols_44 n) x2 (0) σ20
      else
        g_Mo_readSymbols_88 (g_Mo_readSymbols_44 n) x2 (1) σ20
  else
    g_Mo_readSymbols_95 x1 σ
set_option maxHeartbeats 4000000 in
theorem t_Mo_readSymbols_44 : ∀ (n : Nat) {x1 : Int32} {x2 : Int32} {σ σ' : am_S} {r : Int32} (h : g_Mo_readSymbols_44 n x1 x2 σ = some (r, σ')), am_A S_m M_Mo_readSymbols (44, [some (.ref 0), some (.int x1), some (.int x2)], [], σ) (am_r S_m (fun q τ => q = some (.int r) ∧ τ = σ')) := by
  intro n
  induction n with
  | zero =>
    intro x1 x2 σ σ' r h
    cases h
  | succ n ih =>
  intro x1 x2 σ σ' r h
  unfold g_Mo_readSymbols_44 at h
  refine a_iload_n i_Mo_readSymbols_44 rfl ?_
  refine a_aload_n i_Mo_readSymbols_45 rfl ?_
  refine a_get (v := .int (σ.1.1 0 54)) i_Mo_readSymbols_46 rfl rfl ?_
  by_cases c4 : x2 < (σ.1.1 0 54)
  · rw [if_pos c4] at h
    refine a_icf i_Mo_readSymbols_49 (Int32.not_le.mpr c4) ?_
    refine a_iload_n i_Mo_readSymbols_52 rfl ?_
    by_cases c6 : x1 = 0
    · rw [if_pos c6] at h
      refine a_ift i_Mo_readSymbols_53 c6 ?_
      exact am_wk (t_Mo_readSymbols_95 h) ⟨Or.inl rfl, Or.inr rfl, Or.inl rfl, trivial⟩
    · rw [if_neg c6] at h
      refine a_iff i_Mo_readSymbols_53 c6 ?_
      refine a_aload_n i_Mo_readSymbols_56 rfl ?_
      refine a_bipush i_Mo_readSymbols_57 ?_
      refine a_aload_n i_Mo_readSymbols_59 rfl ?_
      refine a_aload_n i_Mo_readSymbols_60 rfl ?_
      refine a_get (v := .ref 3) i_Mo_readSymbols_61 rfl rfl ?_
      refine a_bipush i_Mo_readSymbols_64 ?_
      obtain ⟨c13, h⟩ := gd_some h
      refine a_ial (n := 10) i_Mo_readSymbols_66 (by decide) rfl rfl (inb_in c13) ?_
      refine a_bipush i_Mo_readSymbols_67 ?_
      refine a_iload_n i_Mo_readSymbols_69 rfl ?_
      refine a_imul i_Mo_readSymbols_70 ?_
      refine a_iadd i_Mo_readSymbols_71 ?_
      refine a_iconst i_Mo_readSymbols_72 ?_
      obtain ⟨v19, σ19, e19, h⟩ := am_bd_some h
      refine am_cvd (rest := [.int 9, .ref 0]) [.int ((σ.2.1 3 (8 : Int32).toNatClampNeg) + (24 * x2)), .int 4] c_Mo_readSymbols_73 ⟨by decide, _, rfl⟩ rfl (Nat.le_of_ble_eq_true rfl) (t_Mo_peek e19) ?_
      obtain ⟨v20, σ20, e20, h⟩ := am_bd_some h
      refine am_cvd (rest := []) [.int 9, .long v19] c_Mo_readSymbols_76 ⟨by decide, _, rfl⟩ rfl (Nat.le_of_ble_eq_true rfl) (t_Mo_textIn e20) ?_
      refine a_iconst i_Mo_readSymbols_79 ?_
      by_cases c22 : v20 = (-1)
      · rw [if_pos c22] at h
        refine a_ict i_Mo_readSymbols_80 c22 ?_
        refine a_iconst i_Mo_readSymbols_87 ?_
        exact am_wk (t_Mo_readSymbols_88 (fun h => ih h) h) ⟨Or.inr rfl, Or.inl rfl, Or.inr rfl, trivial⟩
      · rw [if_neg c22] at h
        refine a_icf i_Mo_readSymbols_80 c22 ?_
        refine a_iconst i_Mo_readSymbols_83 ?_
        refine a_goto i_Mo_readSymbols_84 ?_
        exact am_wk (t_Mo_readSymbols_88 (fun h => ih h) h) ⟨Or.inr rfl, Or.inl rfl, Or.inr rfl, trivial⟩
  · rw [if_neg c4] at h
    refine a_ict i_Mo_readSymbols_49 (Int32.not_lt.mp c4) ?_
    exact am_wk (t_Mo_readSymbols_95 h) ⟨Or.inl rfl, Or.inr rfl, Or.inl rfl, trivial⟩
def g_Mo_readSymbols_41 (y0 : Int32) (σ : am_S) : Option (Int32 × am_S) :=
  g_Mo_readSymbols_44 4000 y0 (0) σ
set_option maxHeartbeats 4000000 in
theorem t_Mo_readSymbols_41 {y0 : Int32} {σ σ' : am_S} {r : Int32} (h : g_Mo_readSymbols_41 y0 σ = some (r, σ')) : am_A S_m M_Mo_readSymbols (41, [some (.ref 0), none, none], [.int y0], σ) (am_r S_m (fun q τ => q = some (.int r) ∧ τ = σ')) := by
  unfold g_Mo_readSymbols_41 at h
  refine a_istore_n i_Mo_readSymbols_41 rfl ?_
  refine a_iconst i_Mo_readSymbols_42 ?_
  refine a_istore_n i_Mo_readSymbols_43 rfl ?_
  exact t_Mo_readSymbols_44 4000 h
def g_Mo_readSymbols_40 (σ : am_S) : Option (Int32 × am_S) :=
  g_Mo_readSymbols_41 (0) σ
set_option maxHeartbeats 4000000 in
theorem t_Mo_readSymbols_40 {σ σ' : am_S} {r : Int32} (h : g_Mo_readSymbols_40 σ = some (r, σ')) : am_A S_m M_Mo_readSymbols (40, [some (.ref 0), none, none], [], σ) (am_r S_m (fun q τ => q = some (.int r) ∧ τ = σ')) := by
  unfold g_Mo_readSymbols_40 at h
  refine a_iconst i_Mo_readSymbols_40 ?_
  exact t_Mo_readSymbols_41 h
def g_Mo_readSymbols (σ : am_S) : Option (Int32 × am_S) :=
  am_gd (inb 8 10) <|
  am_gd (decide (¬ 24 = 0)) <|
  am_gd (inb 8 10) <|
  am_gd (decide (¬ 24 = 0)) <|
  if (((am_fi σ 0 54 ((σ.2.1 4 (8 : Int32).toNatClampNeg) / 24)).2.1 4 (8 : Int32).toNatClampNeg) - ((am_fi σ 0 54 ((σ.2.1 4 (8 : Int32).toNatClampNeg) / 24)).2.1 4 (8 : Int32).toNatClampNeg) / 24 * 24) = 0 then
    if 60 < ((σ.2.1 4 (8 : Int32).toNatClampNeg) / 24) then
      g_Mo_readSymbols_40 (am_fi σ 0 54 ((σ.2.1 4 (8 : Int32).toNatClampNeg) / 24))
    else
      g_Mo_readSymbols_41 (1) (am_fi σ 0 54 ((σ.2.1 4 (8 : Int32).toNatClampNeg) / 24))
  else
    g_Mo_readSymbols_40 (am_fi σ 0 54 ((σ.2.1 4 (8 : Int32).toNatClampNeg) / 24))
set_option maxHeartbeats 4000000 in
theorem t_Mo_readSymbols_0 {σ σ' : am_S} {r : Int32} (h : g_Mo_readSymbols σ = some (r, σ')) : am_A S_m M_Mo_readSymbols (0, [some (.ref 0), none, none], [], σ) (am_r S_m (fun q τ => q = some (.int r) ∧ τ = σ')) := by
  unfold g_Mo_readSymbols at h
  refine a_aload_n i_Mo_readSymbols_0 rfl ?_
  refine a_aload_n i_Mo_readSymbols_1 rfl ?_
  refine a_get (v := .ref 4) i_Mo_readSymbols_2 rfl rfl ?_
  refine a_bipush i_Mo_readSymbols_5 ?_
  obtain ⟨c5, h⟩ := gd_some h
  refine a_ial (n := 10) i_Mo_readSymbols_7 (by decide) rfl rfl (inb_in c5) ?_
  refine a_bipush i_Mo_readSymbols_8 ?_
  obtain ⟨c7, h⟩ := gd_some h
  refine a_idiv i_Mo_readSymbols_10 (of_decide_eq_true c7) ?_
  refine a_puti i_Mo_readSymbols_11 rfl trivial ?_
  refine a_aload_n i_Mo_readSymbols_14 rfl ?_
  refine a_get (v := .ref 4) i_Mo_readSymbols_15 rfl rfl ?_
  refine a_bipush i_Mo_readSymbols_18 ?_
  obtain ⟨c12, h⟩ := gd_some h
  refine a_ial (n := 10) i_Mo_readSymbols_20 (by decide) rfl rfl (inb_in c12) ?_
  refine a_bipush i_Mo_readSymbols_21 ?_
  obtain ⟨c14, h⟩ := gd_some h
  refine a_irem i_Mo_readSymbols_23 (of_decide_eq_true c14) ?_
  by_cases c15 : (((am_fi σ 0 54 ((σ.2.1 4 (8 : Int32).toNatClampNeg) / 24)).2.1 4 (8 : Int32).toNatClampNeg) - ((am_fi σ 0 54 ((σ.2.1 4 (8 : Int32).toNatClampNeg) / 24)).2.1 4 (8 : Int32).toNatClampNeg) / 24 * 24) = 0
  · rw [if_pos c15] at h
    refine a_iff i_Mo_readSymbols_24 c15 ?_
    refine a_aload_n i_Mo_readSymbols_27 rfl ?_
    refine a_get (v := .int ((σ.2.1 4 (8 : Int32).toNatClampNeg) / 24)) i_Mo_readSymbols_28 rfl rfl ?_
    refine a_bipush i_Mo_readSymbols_31 ?_
    by_cases c19 : 60 < ((σ.2.1 4 (8 : Int32).toNatClampNeg) / 24)
    · rw [if_pos c19] at h
      refine a_ict i_Mo_readSymbols_33 c19 ?_
      exact t_Mo_readSymbols_40 h
    · rw [if_neg c19] at h
      refine a_icf i_Mo_readSymbols_33 c19 ?_
      refine a_iconst i_Mo_readSymbols_36 ?_
      refine a_goto i_Mo_readSymbols_37 ?_
      exact t_Mo_readSymbols_41 h
  · rw [if_neg c15] at h
    refine a_ift i_Mo_readSymbols_24 c15 ?_
    exact t_Mo_readSymbols_40 h
theorem t_Mo_readSymbols {σ σ' : am_S} {r : Int32} (h : g_Mo_readSymbols σ = some (r, σ')) : am_Mt S_m M_Mo_readSymbols [.ref 0] σ (fun q τ => q = some (.int r) ∧ τ = σ') :=
  am_M_of ok_Mo_readSymbols (Nat.le_of_ble_eq_true rfl) (t_Mo_readSymbols_0 h)
