def g_Ro_add (x1 : Int64) (x3 : Int64) (x5 : Int32) (x6 : Int32) (σ : am_S) : Option (Int32 × am_S) :=
  if (σ.1.1 40 8) = 400 then
    some (0, σ)
  else
    am_gd (inb (σ.1.1 40 8) 400) <|
    am_gd (inb (σ.1.1 40 8) 400) <|
    am_gd (inb (σ.1.1 40 8) 400) <|
    am_gd (inb (σ.1.1 40 8) 400) <|
    some (1, am_fi (am_ai (am_ai (am_al (am_al σ 41 (σ.1.1 40 8).toNatClampNeg x1) 42 (σ.1.1 40 8).toNatClampNeg x3) 43 (σ.1.1 40 8).toNatClampNeg x5) 44 (σ.1.1 40 8).toNatClampNeg (vp_nar .boolean x6)) 40 8 ((σ.1.1 40 8) + 1))
set_option maxHeartbeats 4000000 in
theorem t_Ro_add_0 {x1 : Int64} {x3 : Int64} {x5 : Int32} {x6 : Int32} {σ σ' : am_S} {r : Int32} (h : g_Ro_add x1 x3 x5 x6 σ = some (r, σ')) : am_A S_c M_Ro_add (0, [some (.ref 40), some (.long x1), none, some (.long x3), none, some (.int x5), some (.int x6)], [], σ) (am_r S_c (fun q τ => q = some (.int r) ∧ τ = σ')) := by
  unfold g_Ro_add at h
  refine a_aload_n i_Ro_add_0 rfl ?_
  refine a_get (v := .int (σ.1.1 40 8)) i_Ro_add_1 rfl rfl ?_
  refine a_sipush i_Ro_add_4 ?_
  by_cases c4 : (σ.1.1 40 8) = 400
  · rw [if_pos c4] at h
    refine a_icf i_Ro_add_7 c4 ?_
    refine a_iconst i_Ro_add_10 ?_
    exact am_ret_z ok_Ro_add rfl rfl (Or.inl rfl) (am_lf_i h)
  · rw [if_neg c4] at h
    refine a_ict i_Ro_add_7 c4 ?_
    refine a_aload_n i_Ro_add_12 rfl ?_
    refine a_get (v := .ref 41) i_Ro_add_13 rfl rfl ?_
    refine a_aload_n i_Ro_add_16 rfl ?_
    refine a_get (v := .int (σ.1.1 40 8)) i_Ro_add_17 rfl rfl ?_
    refine a_lload_n i_Ro_add_20 rfl ?_
    obtain ⟨c10, h⟩ := gd_some h
    refine a_las (n := 400) i_Ro_add_21 rfl rfl (inb_in c10) ?_
    refine a_aload_n i_Ro_add_22 rfl ?_
    refine a_get (v := .ref 42) i_Ro_add_23 rfl rfl ?_
    refine a_aload_n i_Ro_add_26 rfl ?_
    refine a_get (v := .int (σ.1.1 40 8)) i_Ro_add_27 rfl rfl ?_
    refine a_lload_n i_Ro_add_30 rfl ?_
    obtain ⟨c16, h⟩ := gd_some h
    refine a_las (n := 400) i_Ro_add_31 rfl rfl (inb_in c16) ?_
    refine a_aload_n i_Ro_add_32 rfl ?_
    refine a_get (v := .ref 43) i_Ro_add_33 rfl rfl ?_
    refine a_aload_n i_Ro_add_36 rfl ?_
    refine a_get (v := .int (σ.1.1 40 8)) i_Ro_add_37 rfl rfl ?_
    refine a_iload i_Ro_add_40 rfl ?_
    obtain ⟨c22, h⟩ := gd_some h
    refine a_ias (n := 400) i_Ro_add_42 rfl rfl (inb_in c22) ?_
    refine a_aload_n i_Ro_add_43 rfl ?_
    refine a_get (v := .ref 44) i_Ro_add_44 rfl rfl ?_
    refine a_aload_n i_Ro_add_47 rfl ?_
    refine a_get (v := .int (σ.1.1 40 8)) i_Ro_add_48 rfl rfl ?_
    refine a_iload i_Ro_add_51 rfl ?_
    obtain ⟨c28, h⟩ := gd_some h
    refine a_bas (n := 400) i_Ro_add_53 rfl rfl (inb_in c28) ?_
    refine a_aload_n i_Ro_add_54 rfl ?_
    refine a_dup_a i_Ro_add_55 ?_
    refine a_get (v := .int (σ.1.1 40 8)) i_Ro_add_56 rfl rfl ?_
    refine a_iconst i_Ro_add_59 ?_
    refine a_iadd i_Ro_add_60 ?_
    refine a_puti i_Ro_add_61 rfl trivial ?_
    refine a_iconst i_Ro_add_64 ?_
    exact am_ret_z ok_Ro_add rfl rfl (Or.inr rfl) (am_lf_i h)
theorem t_Ro_add {x1 : Int64} {x3 : Int64} {x5 : Int32} {x6 : Int32} {σ σ' : am_S} {r : Int32} (h : g_Ro_add x1 x3 x5 x6 σ = some (r, σ')) : am_Mt S_c M_Ro_add [.ref 40, .long x1, .long x3, .int x5, .int x6] σ (fun q τ => q = some (.int r) ∧ τ = σ') :=
  am_M_of ok_Ro_add (Nat.le_of_ble_eq_true rfl) (t_Ro_add_0 h)
def g_Ro_addFile (x1 : Int32) (x2 : Int32) (σ : am_S) : Option (Unit × am_S) :=
  am_gd (inb x1 4) <|
  am_gd (inb ((x1 * 30) + (σ.2.1 47 x1.toNatClampNeg)) 120) <|
  am_gd (inb x1 4) <|
  am_gd (inb x1 4) <|
  some ((), am_ai (am_ai σ 48 ((x1 * 30) + (σ.2.1 47 x1.toNatClampNeg)).toNatClampNeg x2) 47 x1.toNatClampNeg (((am_ai σ 48 ((x1 * 30) + (σ.2.1 47 x1.toNatClampNeg)).toNatClampNeg x2).2.1 47 x1.toNatClampNeg) + 1))
set_option maxHeartbeats 4000000 in
theorem t_Ro_addFile_0 {x1 : Int32} {x2 : Int32} {σ σ' : am_S} {r : Unit} (h : g_Ro_addFile x1 x2 σ = some (r, σ')) : am_A S_c M_Ro_addFile (0, [some (.ref 40), some (.int x1), some (.int x2)], [], σ) (am_r S_c (fun q τ => q = none ∧ τ = σ')) := by
  unfold g_Ro_addFile at h
  refine a_aload_n i_Ro_addFile_0 rfl ?_
  refine a_get (v := .ref 48) i_Ro_addFile_1 rfl rfl ?_
  refine a_iload_n i_Ro_addFile_4 rfl ?_
  refine a_bipush i_Ro_addFile_5 ?_
  refine a_imul i_Ro_addFile_7 ?_
  refine a_aload_n i_Ro_addFile_8 rfl ?_
  refine a_get (v := .ref 47) i_Ro_addFile_9 rfl rfl ?_
  refine a_iload_n i_Ro_addFile_12 rfl ?_
  obtain ⟨c9, h⟩ := gd_some h
  refine a_ial (n := 4) i_Ro_addFile_13 (by decide) rfl rfl (inb_in c9) ?_
  refine a_iadd i_Ro_addFile_14 ?_
  refine a_iload_n i_Ro_addFile_15 rfl ?_
  obtain ⟨c12, h⟩ := gd_some h
  refine a_ias (n := 120) i_Ro_addFile_16 rfl rfl (inb_in c12) ?_
  refine a_aload_n i_Ro_addFile_17 rfl ?_
  refine a_get (v := .ref 47) i_Ro_addFile_18 rfl rfl ?_
  refine a_iload_n i_Ro_addFile_21 rfl ?_
  refine a_dup2_ia i_Ro_addFile_22 ?_
  obtain ⟨c17, h⟩ := gd_some h
  refine a_ial (n := 4) i_Ro_addFile_23 (by decide) rfl rfl (inb_in c17) ?_
  refine a_iconst i_Ro_addFile_24 ?_
  refine a_iadd i_Ro_addFile_25 ?_
  obtain ⟨c20, h⟩ := gd_some h
  refine a_ias (n := 4) i_Ro_addFile_26 rfl rfl (inb_in c20) ?_
  exact am_ret_v ok_Ro_addFile rfl rfl (am_lf_v h)
theorem t_Ro_addFile {x1 : Int32} {x2 : Int32} {σ σ' : am_S} {r : Unit} (h : g_Ro_addFile x1 x2 σ = some (r, σ')) : am_Mt S_c M_Ro_addFile [.ref 40, .int x1, .int x2] σ (fun q τ => q = none ∧ τ = σ') :=
  am_M_of ok_Ro_addFile (Nat.le_of_ble_eq_true rfl) (t_Ro_addFile_0 h)
def g_Ro_nameOfFile_34 (y0 : Int32) (σ : am_S) : Option (Int32 × am_S) :=
  some (y0, σ)
set_option maxHeartbeats 4000000 in
theorem t_Ro_nameOfFile_34 {y0 : Int32} {σ σ' : am_S} {r : Int32} (h : g_Ro_nameOfFile_34 y0 σ = some (r, σ')) : am_A S_c M_Ro_nameOfFile (34, [none, none, none, none], [.int y0], σ) (am_r S_c (fun q τ => q = some (.int r) ∧ τ = σ')) := by
  unfold g_Ro_nameOfFile_34 at h
  exact am_ret_i ok_Ro_nameOfFile rfl rfl (am_lf_i h)
def g_Ro_nameOfFile_33 (σ : am_S) : Option (Int32 × am_S) :=
  g_Ro_nameOfFile_34 (-1) σ
set_option maxHeartbeats 4000000 in
theorem t_Ro_nameOfFile_33 {σ σ' : am_S} {r : Int32} (h : g_Ro_nameOfFile_33 σ = some (r, σ')) : am_A S_c M_Ro_nameOfFile (33, [none, none, none, none], [], σ) (am_r S_c (fun q τ => q = some (.int r) ∧ τ = σ')) := by
  unfold g_Ro_nameOfFile_33 at h
  refine a_iconst i_Ro_nameOfFile_33 ?_
  exact t_Ro_nameOfFile_34 h
def g_Ro_nameOfFile (x1 : Int32) (x2 : Int64) (σ : am_S) : Option (Int32 × am_S) :=
  if (lg_cmp x2 0) < 0 then
    g_Ro_nameOfFile_33 σ
  else
    am_gd (inb x1 4) <|
    if (lg_cmp x2 ((σ.2.1 47 x1.toNatClampNeg).toInt64)) < 0 then
      am_gd (inb ((x1 * 30) + x2.toInt32) 120) <|
      g_Ro_nameOfFile_34 (σ.2.1 48 ((x1 * 30) + x2.toInt32).toNatClampNeg) σ
    else
      g_Ro_nameOfFile_33 σ
set_option maxHeartbeats 4000000 in
theorem t_Ro_nameOfFile_0 {x1 : Int32} {x2 : Int64} {σ σ' : am_S} {r : Int32} (h : g_Ro_nameOfFile x1 x2 σ = some (r, σ')) : am_A S_c M_Ro_nameOfFile (0, [some (.ref 40), some (.int x1), some (.long x2), none], [], σ) (am_r S_c (fun q τ => q = some (.int r) ∧ τ = σ')) := by
  unfold g_Ro_nameOfFile at h
  refine a_lload_n i_Ro_nameOfFile_0 rfl ?_
  refine a_lconst i_Ro_nameOfFile_1 ?_
  refine a_lcmp i_Ro_nameOfFile_2 ?_
  by_cases c4 : (lg_cmp x2 0) < 0
  · rw [if_pos c4] at h
    refine a_ift i_Ro_nameOfFile_3 c4 ?_
    exact am_wk (t_Ro_nameOfFile_33 h) ⟨Or.inl rfl, Or.inl rfl, Or.inl rfl, Or.inl rfl, trivial⟩
  · rw [if_neg c4] at h
    refine a_iff i_Ro_nameOfFile_3 c4 ?_
    refine a_lload_n i_Ro_nameOfFile_6 rfl ?_
    refine a_aload_n i_Ro_nameOfFile_7 rfl ?_
    refine a_get (v := .ref 47) i_Ro_nameOfFile_8 rfl rfl ?_
    refine a_iload_n i_Ro_nameOfFile_11 rfl ?_
    obtain ⟨c9, h⟩ := gd_some h
    refine a_ial (n := 4) i_Ro_nameOfFile_12 (by decide) rfl rfl (inb_in c9) ?_
    refine a_i2l i_Ro_nameOfFile_13 ?_
    refine a_lcmp i_Ro_nameOfFile_14 ?_
    by_cases c12 : (lg_cmp x2 ((σ.2.1 47 x1.toNatClampNeg).toInt64)) < 0
    · rw [if_pos c12] at h
      refine a_iff i_Ro_nameOfFile_15 (Int32.not_le.mpr c12) ?_
      refine a_aload_n i_Ro_nameOfFile_18 rfl ?_
      refine a_get (v := .ref 48) i_Ro_nameOfFile_19 rfl rfl ?_
      refine a_iload_n i_Ro_nameOfFile_22 rfl ?_
      refine a_bipush i_Ro_nameOfFile_23 ?_
      refine a_imul i_Ro_nameOfFile_25 ?_
      refine a_lload_n i_Ro_nameOfFile_26 rfl ?_
      refine a_l2i i_Ro_nameOfFile_27 ?_
      refine a_iadd i_Ro_nameOfFile_28 ?_
      obtain ⟨c21, h⟩ := gd_some h
      refine a_ial (n := 120) i_Ro_nameOfFile_29 (by decide) rfl rfl (inb_in c21) ?_
      refine a_goto i_Ro_nameOfFile_30 ?_
      exact am_wk (t_Ro_nameOfFile_34 h) ⟨Or.inl rfl, Or.inl rfl, Or.inl rfl, Or.inl rfl, trivial⟩
    · rw [if_neg c12] at h
      refine a_ift i_Ro_nameOfFile_15 (Int32.not_lt.mp c12) ?_
      exact am_wk (t_Ro_nameOfFile_33 h) ⟨Or.inl rfl, Or.inl rfl, Or.inl rfl, Or.inl rfl, trivial⟩
theorem t_Ro_nameOfFile {x1 : Int32} {x2 : Int64} {σ σ' : am_S} {r : Int32} (h : g_Ro_nameOfFile x1 x2 σ = some (r, σ')) : am_Mt S_c M_Ro_nameOfFile [.ref 40, .int x1, .long x2] σ (fun q τ => q = some (.int r) ∧ τ = σ') :=
  am_M_of ok_Ro_nameOfFile (Nat.le_of_ble_eq_true rfl) (t_Ro_nameOfFile_0 h)
def g_Ro_lastNotAbove_5 : Nat → Int32 → Int64 → Int32 → am_S → Option (Int32 × am_S)
  | 0, _, _, _, _ => none
  | n + 1, x1, x3, x5, σ =>
  if x5 < x1 then
    some ((-1), σ)
  else
    am_gd (inb x5 400) <|
    am_bd (g_F_isBelow x3 (σ.2.2 41 x5.toNatClampNeg) σ) fun v9 σ9 =>
    if v9 = 0 then
      some (x5, σ9)
    else
      g_Ro_lastNotAbove_5 n x1 x3 (x5 + (-1)) σ9
set_option maxHeartbeats 4000000 in
theorem t_Ro_lastNotAbove_5 : ∀ (n : Nat) {x1 : Int32} {x3 : Int64} {x5 : Int32} {σ σ' : am_S} {r : Int32} (h : g_Ro_lastNotAbove_5 n x1 x3 x5 σ = some (r, σ')), am_A S_c M_Ro_lastNotAbove (5, [some (.ref 40), some (.int x1), none, some (.long x3), none, some (.int x5)], [], σ) (am_r S_c (fun q τ => q = some (.int r) ∧ τ = σ')) := by
  intro n
  induction n with
  | zero =>
    intro x1 x3 x5 σ σ' r h
    cases h
  | succ n ih =>
  intro x1 x3 x5 σ σ' r h
  unfold g_Ro_lastNotAbove_5 at h
  refine a_iload i_Ro_lastNotAbove_5 rfl ?_
  refine a_iload_n i_Ro_lastNotAbove_7 rfl ?_
  by_cases c3 : x5 < x1
  · rw [if_pos c3] at h
    refine a_ict i_Ro_lastNotAbove_8 c3 ?_
    refine a_iconst i_Ro_lastNotAbove_34 ?_
    exact am_ret_i ok_Ro_lastNotAbove rfl rfl (am_lf_i h)
  · rw [if_neg c3] at h
    refine a_icf i_Ro_lastNotAbove_8 c3 ?_
    refine a_lload_n i_Ro_lastNotAbove_11 rfl ?_
    refine a_aload_n i_Ro_lastNotAbove_12 rfl ?_
    refine a_get (v := .ref 41) i_Ro_lastNotAbove_13 rfl rfl ?_
    refine a_iload i_Ro_lastNotAbove_16 rfl ?_
    obtain ⟨c8, h⟩ := gd_some h
    refine a_lal (n := 400) i_Ro_lastNotAbove_18 rfl rfl (inb_in c8) ?_
    obtain ⟨v9, σ9, e9, h⟩ := am_bd_some h
    refine am_csd (rest := []) [.long x3, .long (σ.2.2 41 x5.toNatClampNeg)] c_Ro_lastNotAbove_19 rfl (Nat.le_of_ble_eq_true rfl) (t_F_isBelow e9) ?_
    by_cases c10 : v9 = 0
    · rw [if_pos c10] at h
      refine a_iff i_Ro_lastNotAbove_22 c10 ?_
      refine a_iload i_Ro_lastNotAbove_25 rfl ?_
      exact am_ret_i ok_Ro_lastNotAbove rfl rfl (am_lf_i h)
    · rw [if_neg c10] at h
      refine a_ift i_Ro_lastNotAbove_22 c10 ?_
      refine a_iinc i_Ro_lastNotAbove_28 rfl rfl ?_
      refine a_goto i_Ro_lastNotAbove_31 ?_
      exact ih h
def g_Ro_lastNotAbove (x1 : Int32) (x2 : Int32) (x3 : Int64) (σ : am_S) : Option (Int32 × am_S) :=
  g_Ro_lastNotAbove_5 4000 x1 x3 (x2 - 1) σ
set_option maxHeartbeats 4000000 in
theorem t_Ro_lastNotAbove_0 {x1 : Int32} {x2 : Int32} {x3 : Int64} {σ σ' : am_S} {r : Int32} (h : g_Ro_lastNotAbove x1 x2 x3 σ = some (r, σ')) : am_A S_c M_Ro_lastNotAbove (0, [some (.ref 40), some (.int x1), some (.int x2), some (.long x3), none, none], [], σ) (am_r S_c (fun q τ => q = some (.int r) ∧ τ = σ')) := by
  unfold g_Ro_lastNotAbove at h
  refine a_iload_n i_Ro_lastNotAbove_0 rfl ?_
  refine a_iconst i_Ro_lastNotAbove_1 ?_
  refine a_isub i_Ro_lastNotAbove_2 ?_
  refine a_istore i_Ro_lastNotAbove_3 rfl ?_
  exact am_wk (t_Ro_lastNotAbove_5 4000 h) ⟨Or.inr rfl, Or.inr rfl, Or.inl rfl, Or.inr rfl, Or.inl rfl, Or.inr rfl, trivial⟩
theorem t_Ro_lastNotAbove {x1 : Int32} {x2 : Int32} {x3 : Int64} {σ σ' : am_S} {r : Int32} (h : g_Ro_lastNotAbove x1 x2 x3 σ = some (r, σ')) : am_Mt S_c M_Ro_lastNotAbove [.ref 40, .int x1, .int x2, .long x3] σ (fun q τ => q = some (.int r) ∧ τ = σ') :=
  am_M_of ok_Ro_lastNotAbove (Nat.le_of_ble_eq_true rfl) (t_Ro_lastNotAbove_0 h)
def g_Ro_rowOf_77 (go : Int32 → Int64 → Int32 → Int32 → am_S → Option (Int32 × am_S)) (x1 : Int32) (x2 : Int64) (x4 : Int32) (x5 : Int32) (σ : am_S) : Option (Int32 × am_S) :=
  go x1 x2 x4 (x5 + 1) σ
set_option maxHeartbeats 4000000 in
theorem t_Ro_rowOf_77 {x1 : Int32} {x2 : Int64} {x4 : Int32} {x5 : Int32} {σ σ' : am_S} {r : Int32} {go : Int32 → Int64 → Int32 → Int32 → am_S → Option (Int32 × am_S)} (hgo : ∀ {x1 : Int32} {x2 : Int64} {x4 : Int32} {x5 : Int32} {σ σ' : am_S} {r : Int32}, go x1 x2 x4 x5 σ = some (r, σ') → am_A S_c M_Ro_rowOf (12, [some (.ref 40), some (.int x1), some (.long x2), none, some (.int x4), some (.int x5)], [], σ) (am_r S_c (fun q τ => q = some (.int r) ∧ τ = σ'))) (h : g_Ro_rowOf_77 go x1 x2 x4 x5 σ = some (r, σ')) : am_A S_c M_Ro_rowOf (77, [some (.ref 40), some (.int x1), some (.long x2), none, some (.int x4), some (.int x5)], [], σ) (am_r S_c (fun q τ => q = some (.int r) ∧ τ = σ')) := by
  unfold g_Ro_rowOf_77 at h
  refine a_iinc i_Ro_rowOf_77 rfl rfl ?_
  refine a_goto i_Ro_rowOf_80 ?_
  exact hgo h
def g_Ro_rowOf_71 (go : Int32 → Int64 → Int32 → Int32 → am_S → Option (Int32 × am_S)) (x1 : Int32) (x2 : Int64) (x5 : Int32) (σ : am_S) : Option (Int32 × am_S) :=
  g_Ro_rowOf_77 go x1 x2 (x5 + 1) x5 σ
set_option maxHeartbeats 4000000 in
theorem t_Ro_rowOf_71 {x1 : Int32} {x2 : Int64} {x5 : Int32} {σ σ' : am_S} {r : Int32} {go : Int32 → Int64 → Int32 → Int32 → am_S → Option (Int32 × am_S)} (hgo : ∀ {x1 : Int32} {x2 : Int64} {x4 : Int32} {x5 : Int32} {σ σ' : am_S} {r : Int32}, go x1 x2 x4 x5 σ = some (r, σ') → am_A S_c M_Ro_rowOf (12, [some (.ref 40), some (.int x1), some (.long x2), none, some (.int x4), some (.int x5)], [], σ) (am_r S_c (fun q τ => q = some (.int r) ∧ τ = σ'))) (h : g_Ro_rowOf_71 go x1 x2 x5 σ = some (r, σ')) : am_A S_c M_Ro_rowOf (71, [some (.ref 40), some (.int x1), some (.long x2), none, none, some (.int x5)], [], σ) (am_r S_c (fun q τ => q = some (.int r) ∧ τ = σ')) := by
  unfold g_Ro_rowOf_71 at h
  refine a_iload i_Ro_rowOf_71 rfl ?_
  refine a_iconst i_Ro_rowOf_73 ?_
  refine a_iadd i_Ro_rowOf_74 ?_
  refine a_istore i_Ro_rowOf_75 rfl ?_
  exact t_Ro_rowOf_77 hgo h
def g_Ro_rowOf_12 : Nat → Int32 → Int64 → Int32 → Int32 → am_S → Option (Int32 × am_S)
  | 0, _, _, _, _, _ => none
  | n + 1, x1, x2, x4, x5, σ =>
  am_gd (inb x1 4) <|
  if x5 < (σ.2.1 46 x1.toNatClampNeg) then
    am_gd (inb x5 400) <|
    if (σ.2.1 44 x5.toNatClampNeg) = 0 then
      g_Ro_rowOf_77 (g_Ro_rowOf_12 n) x1 x2 x4 x5 σ
    else
      am_gd (inb x4 400) <|
      am_bd (g_F_isBelow x2 (σ.2.2 41 x4.toNatClampNeg) σ) fun v17 σ17 =>
      if v17 = 0 then
        am_gd (inb x5 400) <|
        am_bd (g_F_isBelow x2 (σ17.2.2 41 x5.toNatClampNeg) σ17) fun v24 σ24 =>
        if v24 = 0 then
          g_Ro_rowOf_71 (g_Ro_rowOf_12 n) x1 x2 x5 σ24
        else
          am_bd (g_Ro_lastNotAbove x4 x5 x2 σ24) fun v30 σ30 =>
          some (v30, σ30)
      else
        g_Ro_rowOf_71 (g_Ro_rowOf_12 n) x1 x2 x5 σ17
  else
    some ((-1), σ)
set_option maxHeartbeats 4000000 in
theorem t_Ro_rowOf_12 : ∀ (n : Nat) {x1 : Int32} {x2 : Int64} {x4 : Int32} {x5 : Int32} {σ σ' : am_S} {r : Int32} (h : g_Ro_rowOf_12 n x1 x2 x4 x5 σ = some (r, σ')), am_A S_c M_Ro_rowOf (12, [some (.ref 40), some (.int x1), some (.long x2), none, some (.int x4), some (.int x5)], [], σ) (am_r S_c (fun q τ => q = some (.int r) ∧ τ = σ')) := by
  intro n
  induction n with
  | zero =>
    intro x1 x2 x4 x5 σ σ' r h
    cases h
  | succ n ih =>
  intro x1 x2 x4 x5 σ σ' r h
  unfold g_Ro_rowOf_12 at h
  refine a_iload i_Ro_rowOf_12 rfl ?_
  refine a_aload_n i_Ro_rowOf_14 rfl ?_
  refine a_get (v := .ref 46) i_Ro_rowOf_15 rfl rfl ?_
  refine a_iload_n i_Ro_rowOf_18 rfl ?_
  obtain ⟨c5, h⟩ := gd_some h
  refine a_ial (n := 4) i_Ro_rowOf_19 (by decide) rfl rfl (inb_in c5) ?_
  by_cases c6 : x5 < (σ.2.1 46 x1.toNatClampNeg)
  · rw [if_pos c6] at h
    refine a_icf i_Ro_rowOf_20 (Int32.not_le.mpr c6) ?_
    refine a_aload_n i_Ro_rowOf_23 rfl ?_
    refine a_get (v := .ref 44) i_Ro_rowOf_24 rfl rfl ?_
    refine a_iload i_Ro_rowOf_27 rfl ?_
    obtain ⟨c10, h⟩ := gd_some h
    refine a_bal (n := 400) i_Ro_rowOf_29 rfl rfl (inb_in c10) ?_
    by_cases c11 : (σ.2.1 44 x5.toNatClampNeg) = 0
    · rw [if_pos c11] at h
      refine a_ift i_Ro_rowOf_30 c11 ?_
      exact t_Ro_rowOf_77 (fun h => ih h) h
    · rw [if_neg c11] at h
      refine a_iff i_Ro_rowOf_30 c11 ?_
      refine a_lload_n i_Ro_rowOf_33 rfl ?_
      refine a_aload_n i_Ro_rowOf_34 rfl ?_
      refine a_get (v := .ref 41) i_Ro_rowOf_35 rfl rfl ?_
      refine a_iload i_Ro_rowOf_38 rfl ?_
      obtain ⟨c16, h⟩ := gd_some h
      refine a_lal (n := 400) i_Ro_rowOf_40 rfl rfl (inb_in c16) ?_
      obtain ⟨v17, σ17, e17, h⟩ := am_bd_some h
      refine am_csd (rest := []) [.long x2, .long (σ.2.2 41 x4.toNatClampNeg)] c_Ro_rowOf_41 rfl (Nat.le_of_ble_eq_true rfl) (t_F_isBelow e17) ?_
      by_cases c18 : v17 = 0
      · rw [if_pos c18] at h
        refine a_iff i_Ro_rowOf_44 c18 ?_
        refine a_lload_n i_Ro_rowOf_47 rfl ?_
        refine a_aload_n i_Ro_rowOf_48 rfl ?_
        refine a_get (v := .ref 41) i_Ro_rowOf_49 rfl rfl ?_
        refine a_iload i_Ro_rowOf_52 rfl ?_
        obtain ⟨c23, h⟩ := gd_some h
        refine a_lal (n := 400) i_Ro_rowOf_54 rfl rfl (inb_in c23) ?_
        obtain ⟨v24, σ24, e24, h⟩ := am_bd_some h
        refine am_csd (rest := []) [.long x2, .long (σ17.2.2 41 x5.toNatClampNeg)] c_Ro_rowOf_55 rfl (Nat.le_of_ble_eq_true rfl) (t_F_isBelow e24) ?_
        by_cases c25 : v24 = 0
        · rw [if_pos c25] at h
          refine a_ift i_Ro_rowOf_58 c25 ?_
          exact am_wk (t_Ro_rowOf_71 (fun h => ih h) h) ⟨Or.inr rfl, Or.inr rfl, Or.inr rfl, Or.inl rfl, Or.inl rfl, Or.inr rfl, trivial⟩
        · rw [if_neg c25] at h
          refine a_iff i_Ro_rowOf_58 c25 ?_
          refine a_aload_n i_Ro_rowOf_61 rfl ?_
          refine a_iload i_Ro_rowOf_62 rfl ?_
          refine a_iload i_Ro_rowOf_64 rfl ?_
          refine a_lload_n i_Ro_rowOf_66 rfl ?_
          obtain ⟨v30, σ30, e30, h⟩ := am_bd_some h
          refine am_cvd (rest := []) [.int x4, .int x5, .long x2] c_Ro_rowOf_67 ⟨by decide, _, rfl⟩ rfl (Nat.le_of_ble_eq_true rfl) (t_Ro_lastNotAbove e30) ?_
          exact am_ret_i ok_Ro_rowOf rfl rfl (am_lf_i h)
      · rw [if_neg c18] at h
        refine a_ift i_Ro_rowOf_44 c18 ?_
        exact am_wk (t_Ro_rowOf_71 (fun h => ih h) h) ⟨Or.inr rfl, Or.inr rfl, Or.inr rfl, Or.inl rfl, Or.inl rfl, Or.inr rfl, trivial⟩
  · rw [if_neg c6] at h
    refine a_ict i_Ro_rowOf_20 (Int32.not_lt.mp c6) ?_
    refine a_iconst i_Ro_rowOf_83 ?_
    exact am_ret_i ok_Ro_rowOf rfl rfl (am_lf_i h)
def g_Ro_rowOf (x1 : Int32) (x2 : Int64) (σ : am_S) : Option (Int32 × am_S) :=
  am_gd (inb x1 4) <|
  g_Ro_rowOf_12 4000 x1 x2 (σ.2.1 45 x1.toNatClampNeg) (σ.2.1 45 x1.toNatClampNeg) σ
set_option maxHeartbeats 4000000 in
theorem t_Ro_rowOf_0 {x1 : Int32} {x2 : Int64} {σ σ' : am_S} {r : Int32} (h : g_Ro_rowOf x1 x2 σ = some (r, σ')) : am_A S_c M_Ro_rowOf (0, [some (.ref 40), some (.int x1), some (.long x2), none, none, none], [], σ) (am_r S_c (fun q τ => q = some (.int r) ∧ τ = σ')) := by
  unfold g_Ro_rowOf at h
  refine a_aload_n i_Ro_rowOf_0 rfl ?_
  refine a_get (v := .ref 45) i_Ro_rowOf_1 rfl rfl ?_
  refine a_iload_n i_Ro_rowOf_4 rfl ?_
  obtain ⟨c4, h⟩ := gd_some h
  refine a_ial (n := 4) i_Ro_rowOf_5 (by decide) rfl rfl (inb_in c4) ?_
  refine a_istore i_Ro_rowOf_6 rfl ?_
  refine a_iload i_Ro_rowOf_8 rfl ?_
  refine a_istore i_Ro_rowOf_10 rfl ?_
  exact t_Ro_rowOf_12 4000 h
theorem t_Ro_rowOf {x1 : Int32} {x2 : Int64} {σ σ' : am_S} {r : Int32} (h : g_Ro_rowOf x1 x2 σ = some (r, σ')) : am_Mt S_c M_Ro_rowOf [.ref 40, .int x1, .long x2] σ (fun q τ => q = some (.int r) ∧ τ = σ') :=
  am_M_of ok_Ro_rowOf (Nat.le_of_ble_eq_true rfl) (t_Ro_rowOf_0 h)
def g_Li_readHead_26 (σ : am_S) : Option (Int32 × am_S) :=
  some (0, σ)
set_option maxHeartbeats 4000000 in
theorem t_Li_readHead_26 {σ σ' : am_S} {r : Int32} (h : g_Li_readHead_26 σ = some (r, σ')) : am_A S_c M_Li_readHead (26, [none], [], σ) (am_r S_c (fun q τ => q = some (.int r) ∧ τ = σ')) := by
  unfold g_Li_readHead_26 at h
  refine a_iconst i_Li_readHead_26 ?_
  exact am_ret_z ok_Li_readHead rfl rfl (Or.inl rfl) (am_lf_i h)
def g_Li_readHead_142 (y0 : Int32) (σ : am_S) : Option (Int32 × am_S) :=
  am_gd (z01 y0) <|
  some (y0, σ)
set_option maxHeartbeats 4000000 in
theorem t_Li_readHead_142 {y0 : Int32} {σ σ' : am_S} {r : Int32} (h : g_Li_readHead_142 y0 σ = some (r, σ')) : am_A S_c M_Li_readHead (142, [none], [.int y0], σ) (am_r S_c (fun q τ => q = some (.int r) ∧ τ = σ')) := by
  unfold g_Li_readHead_142 at h
  obtain ⟨c1, h⟩ := gd_some h
  exact am_ret_z ok_Li_readHead rfl rfl (z01_or c1) (am_lf_i h)
def g_Li_readHead_141 (σ : am_S) : Option (Int32 × am_S) :=
  g_Li_readHead_142 (0) σ
set_option maxHeartbeats 4000000 in
theorem t_Li_readHead_141 {σ σ' : am_S} {r : Int32} (h : g_Li_readHead_141 σ = some (r, σ')) : am_A S_c M_Li_readHead (141, [none], [], σ) (am_r S_c (fun q τ => q = some (.int r) ∧ τ = σ')) := by
  unfold g_Li_readHead_141 at h
  refine a_iconst i_Li_readHead_141 ?_
  exact t_Li_readHead_142 h
def g_Li_readHead (σ : am_S) : Option (Int32 × am_S) :=
  am_bd (g_Cu_number 51 (1) σ) fun v4 σ4 =>
  if (lg_cmp v4 1) = 0 then
    am_bd (g_Cu_number 51 (1) σ4) fun v11 σ11 =>
    if (lg_cmp v11 1) = 0 then
      am_bd (g_Cu_skip 51 (1) σ11) fun _ σ18 =>
      am_bd (g_Cu_number 51 (1) σ18) fun v23 σ23 =>
      am_bd (g_Cu_number 51 (1) (am_fi σ23 49 8 v23.toInt32.toInt8.toInt32)) fun v31 σ31 =>
      am_bd (g_Cu_number 51 (1) (am_fi σ31 49 9 v31.toInt32)) fun v38 σ38 =>
      am_bd (g_Cu_skip 51 ((v38.toInt32 - 1).toInt64) (am_fi (am_fi σ38 49 10 v38.toInt32) 49 11 (σ38.1.1 51 1))) fun _ σ53 =>
      if (σ53.1.1 51 3) = 0 then
        if (σ53.1.1 49 9) = 0 then
          g_Li_readHead_141 σ53
        else
          if (σ53.1.1 49 10) < 10 then
            g_Li_readHead_141 σ53
          else
            if 200 < (σ53.1.1 49 10) then
              g_Li_readHead_141 σ53
            else
              g_Li_readHead_142 (1) σ53
      else
        g_Li_readHead_141 σ53
    else
      g_Li_readHead_26 σ11
  else
    g_Li_readHead_26 σ4
set_option maxHeartbeats 4000000 in
theorem t_Li_readHead_0 {σ σ' : am_S} {r : Int32} (h : g_Li_readHead σ = some (r, σ')) : am_A S_c M_Li_readHead (0, [some (.ref 49)], [], σ) (am_r S_c (fun q τ => q = some (.int r) ∧ τ = σ')) := by
  unfold g_Li_readHead at h
  refine a_aload_n i_Li_readHead_0 rfl ?_
  refine a_get (v := .ref 51) i_Li_readHead_1 rfl rfl ?_
  refine a_iconst i_Li_readHead_4 ?_
  obtain ⟨v4, σ4, e4, h⟩ := am_bd_some h
  refine am_cvd (rest := []) [.int 1] c_Li_readHead_5 ⟨by decide, _, rfl⟩ rfl (Nat.le_of_ble_eq_true rfl) (t_Cu_number cu_51 e4) ?_
  refine a_lconst i_Li_readHead_8 ?_
  refine a_lcmp i_Li_readHead_9 ?_
  by_cases c7 : (lg_cmp v4 1) = 0
  · rw [if_pos c7] at h
    refine a_iff i_Li_readHead_10 c7 ?_
    refine a_aload_n i_Li_readHead_13 rfl ?_
    refine a_get (v := .ref 51) i_Li_readHead_14 rfl rfl ?_
    refine a_iconst i_Li_readHead_17 ?_
    obtain ⟨v11, σ11, e11, h⟩ := am_bd_some h
    refine am_cvd (rest := []) [.int 1] c_Li_readHead_18 ⟨by decide, _, rfl⟩ rfl (Nat.le_of_ble_eq_true rfl) (t_Cu_number cu_51 e11) ?_
    refine a_lconst i_Li_readHead_21 ?_
    refine a_lcmp i_Li_readHead_22 ?_
    by_cases c14 : (lg_cmp v11 1) = 0
    · rw [if_pos c14] at h
      refine a_ift i_Li_readHead_23 c14 ?_
      refine a_aload_n i_Li_readHead_28 rfl ?_
      refine a_get (v := .ref 51) i_Li_readHead_29 rfl rfl ?_
      refine a_lconst i_Li_readHead_32 ?_
      obtain ⟨v18, σ18, e18, h⟩ := am_bd_some h
      refine am_cvd (rest := []) [.long 1] c_Li_readHead_33 ⟨by decide, _, rfl⟩ rfl (Nat.le_of_ble_eq_true rfl) (t_Cu_skip cu_51 e18) ?_
      refine a_aload_n i_Li_readHead_36 rfl ?_
      refine a_aload_n i_Li_readHead_37 rfl ?_
      refine a_get (v := .ref 51) i_Li_readHead_38 rfl rfl ?_
      refine a_iconst i_Li_readHead_41 ?_
      obtain ⟨v23, σ23, e23, h⟩ := am_bd_some h
      refine am_cvd (rest := [.ref 49]) [.int 1] c_Li_readHead_42 ⟨by decide, _, rfl⟩ rfl (Nat.le_of_ble_eq_true rfl) (t_Cu_number cu_51 e23) ?_
      refine a_l2i i_Li_readHead_45 ?_
      refine a_i2b i_Li_readHead_46 ?_
      refine a_puti i_Li_readHead_47 rfl trivial ?_
      refine a_aload_n i_Li_readHead_50 rfl ?_
      refine a_aload_n i_Li_readHead_51 rfl ?_
      refine a_get (v := .ref 51) i_Li_readHead_52 rfl rfl ?_
      refine a_iconst i_Li_readHead_55 ?_
      obtain ⟨v31, σ31, e31, h⟩ := am_bd_some h
      refine am_cvd (rest := [.ref 49]) [.int 1] c_Li_readHead_56 ⟨by decide, _, rfl⟩ rfl (Nat.le_of_ble_eq_true rfl) (t_Cu_number cu_51 e31) ?_
      refine a_l2i i_Li_readHead_59 ?_
      refine a_puti i_Li_readHead_60 rfl trivial ?_
      refine a_aload_n i_Li_readHead_63 rfl ?_
      refine a_aload_n i_Li_readHead_64 rfl ?_
      refine a_get (v := .ref 51) i_Li_readHead_65 rfl rfl ?_
      refine a_iconst i_Li_readHead_68 ?_
      obtain ⟨v38, σ38, e38, h⟩ := am_bd_some h
      refine am_cvd (rest := [.ref 49]) [.int 1] c_Li_readHead_69 ⟨by decide, _, rfl⟩ rfl (Nat.le_of_ble_eq_true rfl) (t_Cu_number cu_51 e38) ?_
      refine a_l2i i_Li_readHead_72 ?_
      refine a_puti i_Li_readHead_73 rfl trivial ?_
      refine a_aload_n i_Li_readHead_76 rfl ?_
      refine a_aload_n i_Li_readHead_77 rfl ?_
      refine a_get (v := .ref 51) i_Li_readHead_78 rfl rfl ?_
      refine a_get (v := .int (σ38.1.1 51 1)) i_Li_readHead_81 rfl rfl ?_
      refine a_puti i_Li_readHead_84 rfl trivial ?_
      refine a_aload_n i_Li_readHead_87 rfl ?_
      refine a_get (v := .ref 51) i_Li_readHead_88 rfl rfl ?_
      refine a_aload_n i_Li_readHead_91 rfl ?_
      refine a_get (v := .int v38.toInt32) i_Li_readHead_92 rfl rfl ?_
      refine a_iconst i_Li_readHead_95 ?_
      refine a_isub i_Li_readHead_96 ?_
      refine a_i2l i_Li_readHead_97 ?_
      obtain ⟨v53, σ53, e53, h⟩ := am_bd_some h
      refine am_cvd (rest := []) [.long ((v38.toInt32 - 1).toInt64)] c_Li_readHead_98 ⟨by decide, _, rfl⟩ rfl (Nat.le_of_ble_eq_true rfl) (t_Cu_skip cu_51 e53) ?_
      refine a_aload_n i_Li_readHead_101 rfl ?_
      refine a_get (v := .ref 51) i_Li_readHead_102 rfl rfl ?_
      refine a_get (v := .int (σ53.1.1 51 3)) i_Li_readHead_105 rfl rfl ?_
      by_cases c57 : (σ53.1.1 51 3) = 0
      · rw [if_pos c57] at h
        refine a_iff i_Li_readHead_108 c57 ?_
        refine a_aload_n i_Li_readHead_111 rfl ?_
        refine a_get (v := .int (σ53.1.1 49 9)) i_Li_readHead_112 rfl rfl ?_
        by_cases c60 : (σ53.1.1 49 9) = 0
        · rw [if_pos c60] at h
          refine a_ift i_Li_readHead_115 c60 ?_
          exact am_wk (t_Li_readHead_141 h) ⟨Or.inl rfl, trivial⟩
        · rw [if_neg c60] at h
          refine a_iff i_Li_readHead_115 c60 ?_
          refine a_aload_n i_Li_readHead_118 rfl ?_
          refine a_get (v := .int (σ53.1.1 49 10)) i_Li_readHead_119 rfl rfl ?_
          refine a_bipush i_Li_readHead_122 ?_
          by_cases c64 : (σ53.1.1 49 10) < 10
          · rw [if_pos c64] at h
            refine a_ict i_Li_readHead_124 c64 ?_
            exact am_wk (t_Li_readHead_141 h) ⟨Or.inl rfl, trivial⟩
          · rw [if_neg c64] at h
            refine a_icf i_Li_readHead_124 c64 ?_
            refine a_aload_n i_Li_readHead_127 rfl ?_
            refine a_get (v := .int (σ53.1.1 49 10)) i_Li_readHead_128 rfl rfl ?_
            refine a_sipush i_Li_readHead_131 ?_
            by_cases c68 : 200 < (σ53.1.1 49 10)
            · rw [if_pos c68] at h
              refine a_ict i_Li_readHead_134 c68 ?_
              exact am_wk (t_Li_readHead_141 h) ⟨Or.inl rfl, trivial⟩
            · rw [if_neg c68] at h
              refine a_icf i_Li_readHead_134 c68 ?_
              refine a_iconst i_Li_readHead_137 ?_
              refine a_goto i_Li_readHead_138 ?_
              exact am_wk (t_Li_readHead_142 h) ⟨Or.inl rfl, trivial⟩
      · rw [if_neg c57] at h
        refine a_ift i_Li_readHead_108 c57 ?_
        exact am_wk (t_Li_readHead_141 h) ⟨Or.inl rfl, trivial⟩
    · rw [if_neg c14] at h
      refine a_iff i_Li_readHead_23 c14 ?_
      exact am_wk (t_Li_readHead_26 h) ⟨Or.inl rfl, trivial⟩
  · rw [if_neg c7] at h
    refine a_ift i_Li_readHead_10 c7 ?_
    exact am_wk (t_Li_readHead_26 h) ⟨Or.inl rfl, trivial⟩
theorem t_Li_readHead {σ σ' : am_S} {r : Int32} (h : g_Li_readHead σ = some (r, σ')) : am_Mt S_c M_Li_readHead [.ref 49] σ (fun q τ => q = some (.int r) ∧ τ = σ') :=
  am_M_of ok_Li_readHead (Nat.le_of_ble_eq_true rfl) (t_Li_readHead_0 h)
def g_Li_readForms_37 (σ : am_S) : Option (Int32 × am_S) :=
  some (0, σ)
set_option maxHeartbeats 4000000 in
theorem t_Li_readForms_37 {σ σ' : am_S} {r : Int32} (h : g_Li_readForms_37 σ = some (r, σ')) : am_A S_c M_Li_readForms (37, [none, none, none, none, none, none, none, none], [], σ) (am_r S_c (fun q τ => q = some (.int r) ∧ τ = σ')) := by
  unfold g_Li_readForms_37 at h
  refine a_iconst i_Li_readForms_37 ?_
  exact am_ret_z ok_Li_readForms rfl rfl (Or.inl rfl) (am_lf_i h)
def g_Li_readForms_132 (σ : am_S) : Option (Int32 × am_S) :=
  some (0, σ)
set_option maxHeartbeats 4000000 in
theorem t_Li_readForms_132 {σ σ' : am_S} {r : Int32} (h : g_Li_readForms_132 σ = some (r, σ')) : am_A S_c M_Li_readForms (132, [none, none, none, none, none, none, none, none], [], σ) (am_r S_c (fun q τ => q = some (.int r) ∧ τ = σ')) := by
  unfold g_Li_readForms_132 at h
  refine a_iconst i_Li_readForms_132 ?_
  exact am_ret_z ok_Li_readForms rfl rfl (Or.inl rfl) (am_lf_i h)
def g_Li_readForms_191 (go : Int32 → am_S → Option (Int32 × am_S)) (x1 : Int32) (y0 : Int32) (σ : am_S) : Option (Int32 × am_S) :=
  go (x1 + 1) (am_fi σ 49 7 y0)
set_option maxHeartbeats 4000000 in
theorem t_Li_readForms_191 {x1 : Int32} {y0 : Int32} {σ σ' : am_S} {r : Int32} {go : Int32 → am_S → Option (Int32 × am_S)} (hgo : ∀ {x1 : Int32} {σ σ' : am_S} {r : Int32}, go x1 σ = some (r, σ') → am_A S_c M_Li_readForms (41, [some (.ref 49), some (.int x1), none, none, none, none, none, none], [], σ) (am_r S_c (fun q τ => q = some (.int r) ∧ τ = σ'))) (h : g_Li_readForms_191 go x1 y0 σ = some (r, σ')) : am_A S_c M_Li_readForms (191, [some (.ref 49), some (.int x1), none, none, none, none, none, none], [.int y0, .ref 49], σ) (am_r S_c (fun q τ => q = some (.int r) ∧ τ = σ')) := by
  unfold g_Li_readForms_191 at h
  refine a_puti i_Li_readForms_191 rfl trivial ?_
  refine a_iinc i_Li_readForms_194 rfl rfl ?_
  refine a_goto i_Li_readForms_197 ?_
  exact hgo h
def g_Li_readForms_168 (go : Int32 → am_S → Option (Int32 × am_S)) (x1 : Int32) (x4 : Int64) (x7 : Int32) (σ : am_S) : Option (Int32 × am_S) :=
  am_gd (inb x1 6) <|
  if x7 = 0 then
    g_Li_readForms_191 go x1 (σ.1.1 49 7) (am_ai σ 50 x1.toNatClampNeg x4.toInt32)
  else
    g_Li_readForms_191 go x1 x1 (am_ai σ 50 x1.toNatClampNeg x4.toInt32)
set_option maxHeartbeats 4000000 in
theorem t_Li_readForms_168 {x1 : Int32} {x4 : Int64} {x7 : Int32} {σ σ' : am_S} {r : Int32} {go : Int32 → am_S → Option (Int32 × am_S)} (hgo : ∀ {x1 : Int32} {σ σ' : am_S} {r : Int32}, go x1 σ = some (r, σ') → am_A S_c M_Li_readForms (41, [some (.ref 49), some (.int x1), none, none, none, none, none, none], [], σ) (am_r S_c (fun q τ => q = some (.int r) ∧ τ = σ'))) (h : g_Li_readForms_168 go x1 x4 x7 σ = some (r, σ')) : am_A S_c M_Li_readForms (168, [some (.ref 49), some (.int x1), none, none, some (.long x4), none, none, some (.int x7)], [], σ) (am_r S_c (fun q τ => q = some (.int r) ∧ τ = σ')) := by
  unfold g_Li_readForms_168 at h
  refine a_aload_n i_Li_readForms_168 rfl ?_
  refine a_get (v := .ref 50) i_Li_readForms_169 rfl rfl ?_
  refine a_iload_n i_Li_readForms_172 rfl ?_
  refine a_lload i_Li_readForms_173 rfl ?_
  refine a_l2i i_Li_readForms_175 ?_
  obtain ⟨c6, h⟩ := gd_some h
  refine a_ias (n := 6) i_Li_readForms_176 rfl rfl (inb_in c6) ?_
  refine a_aload_n i_Li_readForms_177 rfl ?_
  refine a_iload i_Li_readForms_178 rfl ?_
  by_cases c9 : x7 = 0
  · rw [if_pos c9] at h
    refine a_ift i_Li_readForms_180 c9 ?_
    refine a_aload_n i_Li_readForms_187 rfl ?_
    refine a_get (v := .int (σ.1.1 49 7)) i_Li_readForms_188 rfl rfl ?_
    exact am_wk (t_Li_readForms_191 hgo h) ⟨Or.inr rfl, Or.inr rfl, Or.inl rfl, Or.inl rfl, Or.inl rfl, Or.inl rfl, Or.inl rfl, Or.inl rfl, trivial⟩
  · rw [if_neg c9] at h
    refine a_iff i_Li_readForms_180 c9 ?_
    refine a_iload_n i_Li_readForms_183 rfl ?_
    refine a_goto i_Li_readForms_184 ?_
    exact am_wk (t_Li_readForms_191 hgo h) ⟨Or.inr rfl, Or.inr rfl, Or.inl rfl, Or.inl rfl, Or.inl rfl, Or.inl rfl, Or.inl rfl, Or.inl rfl, trivial⟩
def g_Li_readForms_134 (go : Int32 → am_S → Option (Int32 × am_S)) (x1 : Int32) (x4 : Int64) (x6 : Int32) (x7 : Int32) (σ : am_S) : Option (Int32 × am_S) :=
  if x6 = 0 then
    if (lg_cmp x4 11) = 0 then
      g_Li_readForms_168 go x1 x4 x7 σ
    else
      if (lg_cmp x4 5) = 0 then
        g_Li_readForms_168 go x1 x4 x7 σ
      else
        if (lg_cmp x4 15) = 0 then
          g_Li_readForms_168 go x1 x4 x7 σ
        else
          some (0, σ)
  else
    g_Li_readForms_168 go x1 x4 x7 σ
set_option maxHeartbeats 4000000 in
theorem t_Li_readForms_134 {x1 : Int32} {x4 : Int64} {x6 : Int32} {x7 : Int32} {σ σ' : am_S} {r : Int32} {go : Int32 → am_S → Option (Int32 × am_S)} (hgo : ∀ {x1 : Int32} {σ σ' : am_S} {r : Int32}, go x1 σ = some (r, σ') → am_A S_c M_Li_readForms (41, [some (.ref 49), some (.int x1), none, none, none, none, none, none], [], σ) (am_r S_c (fun q τ => q = some (.int r) ∧ τ = σ'))) (h : g_Li_readForms_134 go x1 x4 x6 x7 σ = some (r, σ')) : am_A S_c M_Li_readForms (134, [some (.ref 49), some (.int x1), none, none, some (.long x4), none, some (.int x6), some (.int x7)], [], σ) (am_r S_c (fun q τ => q = some (.int r) ∧ τ = σ')) := by
  unfold g_Li_readForms_134 at h
  refine a_iload i_Li_readForms_134 rfl ?_
  by_cases c2 : x6 = 0
  · rw [if_pos c2] at h
    refine a_iff i_Li_readForms_136 c2 ?_
    refine a_lload i_Li_readForms_139 rfl ?_
    refine a_ldc2 i_Li_readForms_141 ?_
    refine a_lcmp i_Li_readForms_144 ?_
    by_cases c6 : (lg_cmp x4 11) = 0
    · rw [if_pos c6] at h
      refine a_ift i_Li_readForms_145 c6 ?_
      exact am_wk (t_Li_readForms_168 hgo h) ⟨Or.inr rfl, Or.inr rfl, Or.inl rfl, Or.inl rfl, Or.inr rfl, Or.inl rfl, Or.inl rfl, Or.inr rfl, trivial⟩
    · rw [if_neg c6] at h
      refine a_iff i_Li_readForms_145 c6 ?_
      refine a_lload i_Li_readForms_148 rfl ?_
      refine a_ldc2 i_Li_readForms_150 ?_
      refine a_lcmp i_Li_readForms_153 ?_
      by_cases c10 : (lg_cmp x4 5) = 0
      · rw [if_pos c10] at h
        refine a_ift i_Li_readForms_154 c10 ?_
        exact am_wk (t_Li_readForms_168 hgo h) ⟨Or.inr rfl, Or.inr rfl, Or.inl rfl, Or.inl rfl, Or.inr rfl, Or.inl rfl, Or.inl rfl, Or.inr rfl, trivial⟩
      · rw [if_neg c10] at h
        refine a_iff i_Li_readForms_154 c10 ?_
        refine a_lload i_Li_readForms_157 rfl ?_
        refine a_ldc2 i_Li_readForms_159 ?_
        refine a_lcmp i_Li_readForms_162 ?_
        by_cases c14 : (lg_cmp x4 15) = 0
        · rw [if_pos c14] at h
          refine a_ift i_Li_readForms_163 c14 ?_
          exact am_wk (t_Li_readForms_168 hgo h) ⟨Or.inr rfl, Or.inr rfl, Or.inl rfl, Or.inl rfl, Or.inr rfl, Or.inl rfl, Or.inl rfl, Or.inr rfl, trivial⟩
        · rw [if_neg c14] at h
          refine a_iff i_Li_readForms_163 c14 ?_
          refine a_iconst i_Li_readForms_166 ?_
          exact am_ret_z ok_Li_readForms rfl rfl (Or.inl rfl) (am_lf_i h)
  · rw [if_neg c2] at h
    refine a_ift i_Li_readForms_136 c2 ?_
    exact am_wk (t_Li_readForms_168 hgo h) ⟨Or.inr rfl, Or.inr rfl, Or.inl rfl, Or.inl rfl, Or.inr rfl, Or.inl rfl, Or.inl rfl, Or.inr rfl, trivial⟩
def g_Li_readForms_110 (go : Int32 → am_S → Option (Int32 × am_S)) (x1 : Int32) (x4 : Int64) (x6 : Int32) (y0 : Int32) (σ : am_S) : Option (Int32 × am_S) :=
  if (σ.1.1 51 3) = 0 then
    if y0 = 0 then
      g_Li_readForms_134 go x1 x4 x6 y0 σ
    else
      if x6 = 0 then
        g_Li_readForms_132 σ
      else
        g_Li_readForms_134 go x1 x4 x6 y0 σ
  else
    g_Li_readForms_132 σ
set_option maxHeartbeats 4000000 in
theorem t_Li_readForms_110 {x1 : Int32} {x4 : Int64} {x6 : Int32} {y0 : Int32} {σ σ' : am_S} {r : Int32} {go : Int32 → am_S → Option (Int32 × am_S)} (hgo : ∀ {x1 : Int32} {σ σ' : am_S} {r : Int32}, go x1 σ = some (r, σ') → am_A S_c M_Li_readForms (41, [some (.ref 49), some (.int x1), none, none, none, none, none, none], [], σ) (am_r S_c (fun q τ => q = some (.int r) ∧ τ = σ'))) (h : g_Li_readForms_110 go x1 x4 x6 y0 σ = some (r, σ')) : am_A S_c M_Li_readForms (110, [some (.ref 49), some (.int x1), none, none, some (.long x4), none, some (.int x6), none], [.int y0], σ) (am_r S_c (fun q τ => q = some (.int r) ∧ τ = σ')) := by
  unfold g_Li_readForms_110 at h
  refine a_istore i_Li_readForms_110 rfl ?_
  refine a_aload_n i_Li_readForms_112 rfl ?_
  refine a_get (v := .ref 51) i_Li_readForms_113 rfl rfl ?_
  refine a_get (v := .int (σ.1.1 51 3)) i_Li_readForms_116 rfl rfl ?_
  by_cases c5 : (σ.1.1 51 3) = 0
  · rw [if_pos c5] at h
    refine a_iff i_Li_readForms_119 c5 ?_
    refine a_iload i_Li_readForms_122 rfl ?_
    by_cases c7 : y0 = 0
    · rw [if_pos c7] at h
      refine a_ift i_Li_readForms_124 c7 ?_
      exact t_Li_readForms_134 hgo h
    · rw [if_neg c7] at h
      refine a_iff i_Li_readForms_124 c7 ?_
      refine a_iload i_Li_readForms_127 rfl ?_
      by_cases c9 : x6 = 0
      · rw [if_pos c9] at h
        refine a_iff i_Li_readForms_129 c9 ?_
        exact am_wk (t_Li_readForms_132 h) ⟨Or.inl rfl, Or.inl rfl, Or.inl rfl, Or.inl rfl, Or.inl rfl, Or.inl rfl, Or.inl rfl, Or.inl rfl, trivial⟩
      · rw [if_neg c9] at h
        refine a_ift i_Li_readForms_129 c9 ?_
        exact t_Li_readForms_134 hgo h
  · rw [if_neg c5] at h
    refine a_ift i_Li_readForms_119 c5 ?_
    exact am_wk (t_Li_readForms_132 h) ⟨Or.inl rfl, Or.inl rfl, Or.inl rfl, Or.inl rfl, Or.inl rfl, Or.inl rfl, Or.inl rfl, Or.inl rfl, trivial⟩
def g_Li_readForms_109 (go : Int32 → am_S → Option (Int32 × am_S)) (x1 : Int32) (x4 : Int64) (x6 : Int32) (σ : am_S) : Option (Int32 × am_S) :=
  g_Li_readForms_110 go x1 x4 x6 (0) σ
set_option maxHeartbeats 4000000 in
theorem t_Li_readForms_109 {x1 : Int32} {x4 : Int64} {x6 : Int32} {σ σ' : am_S} {r : Int32} {go : Int32 → am_S → Option (Int32 × am_S)} (hgo : ∀ {x1 : Int32} {σ σ' : am_S} {r : Int32}, go x1 σ = some (r, σ') → am_A S_c M_Li_readForms (41, [some (.ref 49), some (.int x1), none, none, none, none, none, none], [], σ) (am_r S_c (fun q τ => q = some (.int r) ∧ τ = σ'))) (h : g_Li_readForms_109 go x1 x4 x6 σ = some (r, σ')) : am_A S_c M_Li_readForms (109, [some (.ref 49), some (.int x1), none, none, some (.long x4), none, some (.int x6), none], [], σ) (am_r S_c (fun q τ => q = some (.int r) ∧ τ = σ')) := by
  unfold g_Li_readForms_109 at h
  refine a_iconst i_Li_readForms_109 ?_
  exact t_Li_readForms_110 hgo h
def g_Li_readForms_89 (go : Int32 → am_S → Option (Int32 × am_S)) (x1 : Int32) (x2 : Int64) (x4 : Int64) (y0 : Int32) (σ : am_S) : Option (Int32 × am_S) :=
  if (lg_cmp x2 1) = 0 then
    if (σ.1.1 49 7) = (-1) then
      g_Li_readForms_110 go x1 x4 y0 (1) σ
    else
      g_Li_readForms_109 go x1 x4 y0 σ
  else
    g_Li_readForms_109 go x1 x4 y0 σ
set_option maxHeartbeats 4000000 in
theorem t_Li_readForms_89 {x1 : Int32} {x2 : Int64} {x4 : Int64} {y0 : Int32} {σ σ' : am_S} {r : Int32} {go : Int32 → am_S → Option (Int32 × am_S)} (hgo : ∀ {x1 : Int32} {σ σ' : am_S} {r : Int32}, go x1 σ = some (r, σ') → am_A S_c M_Li_readForms (41, [some (.ref 49), some (.int x1), none, none, none, none, none, none], [], σ) (am_r S_c (fun q τ => q = some (.int r) ∧ τ = σ'))) (h : g_Li_readForms_89 go x1 x2 x4 y0 σ = some (r, σ')) : am_A S_c M_Li_readForms (89, [some (.ref 49), some (.int x1), some (.long x2), none, some (.long x4), none, none, none], [.int y0], σ) (am_r S_c (fun q τ => q = some (.int r) ∧ τ = σ')) := by
  unfold g_Li_readForms_89 at h
  refine a_istore i_Li_readForms_89 rfl ?_
  refine a_lload_n i_Li_readForms_91 rfl ?_
  refine a_lconst i_Li_readForms_92 ?_
  refine a_lcmp i_Li_readForms_93 ?_
  by_cases c5 : (lg_cmp x2 1) = 0
  · rw [if_pos c5] at h
    refine a_iff i_Li_readForms_94 c5 ?_
    refine a_aload_n i_Li_readForms_97 rfl ?_
    refine a_get (v := .int (σ.1.1 49 7)) i_Li_readForms_98 rfl rfl ?_
    refine a_iconst i_Li_readForms_101 ?_
    by_cases c9 : (σ.1.1 49 7) = (-1)
    · rw [if_pos c9] at h
      refine a_icf i_Li_readForms_102 c9 ?_
      refine a_iconst i_Li_readForms_105 ?_
      refine a_goto i_Li_readForms_106 ?_
      exact am_wk (t_Li_readForms_110 hgo h) ⟨Or.inr rfl, Or.inr rfl, Or.inl rfl, Or.inl rfl, Or.inr rfl, Or.inl rfl, Or.inr rfl, Or.inl rfl, trivial⟩
    · rw [if_neg c9] at h
      refine a_ict i_Li_readForms_102 c9 ?_
      exact am_wk (t_Li_readForms_109 hgo h) ⟨Or.inr rfl, Or.inr rfl, Or.inl rfl, Or.inl rfl, Or.inr rfl, Or.inl rfl, Or.inr rfl, Or.inl rfl, trivial⟩
  · rw [if_neg c5] at h
    refine a_ift i_Li_readForms_94 c5 ?_
    exact am_wk (t_Li_readForms_109 hgo h) ⟨Or.inr rfl, Or.inr rfl, Or.inl rfl, Or.inl rfl, Or.inr rfl, Or.inl rfl, Or.inr rfl, Or.inl rfl, trivial⟩
def g_Li_readForms_84 (go : Int32 → am_S → Option (Int32 × am_S)) (x1 : Int32) (x2 : Int64) (x4 : Int64) (σ : am_S) : Option (Int32 × am_S) :=
  g_Li_readForms_89 go x1 x2 x4 (1) σ
set_option maxHeartbeats 4000000 in
theorem t_Li_readForms_84 {x1 : Int32} {x2 : Int64} {x4 : Int64} {σ σ' : am_S} {r : Int32} {go : Int32 → am_S → Option (Int32 × am_S)} (hgo : ∀ {x1 : Int32} {σ σ' : am_S} {r : Int32}, go x1 σ = some (r, σ') → am_A S_c M_Li_readForms (41, [some (.ref 49), some (.int x1), none, none, none, none, none, none], [], σ) (am_r S_c (fun q τ => q = some (.int r) ∧ τ = σ'))) (h : g_Li_readForms_84 go x1 x2 x4 σ = some (r, σ')) : am_A S_c M_Li_readForms (84, [some (.ref 49), some (.int x1), some (.long x2), none, some (.long x4), none, none, none], [], σ) (am_r S_c (fun q τ => q = some (.int r) ∧ τ = σ')) := by
  unfold g_Li_readForms_84 at h
  refine a_iconst i_Li_readForms_84 ?_
  refine a_goto i_Li_readForms_85 ?_
  exact t_Li_readForms_89 hgo h
def g_Li_readForms_41 : Nat → Int32 → am_S → Option (Int32 × am_S)
  | 0, _, _ => none
  | n + 1, x1, σ =>
  if x1 < (σ.1.1 49 6) then
    am_bd (g_Cu_uleb 51 σ) fun v7 σ7 =>
    am_bd (g_Cu_uleb 51 σ7) fun v11 σ11 =>
    if (lg_cmp v11 8) = 0 then
      g_Li_readForms_84 (g_Li_readForms_41 n) x1 v7 v11 σ11
    else
      if (lg_cmp v11 31) = 0 then
        g_Li_readForms_84 (g_Li_readForms_41 n) x1 v7 v11 σ11
      else
        g_Li_readForms_89 (g_Li_readForms_41 n) x1 v7 v11 (0) σ11
  else
    some (1, σ)
set_option maxHeartbeats 4000000 in
theorem t_Li_readForms_41 : ∀ (n : Nat) {x1 : Int32} {σ σ' : am_S} {r : Int32} (h : g_Li_readForms_41 n x1 σ = some (r, σ')), am_A S_c M_Li_readForms (41, [some (.ref 49), some (.int x1), none, none, none, none, none, none], [], σ) (am_r S_c (fun q τ => q = some (.int r) ∧ τ = σ')) := by
  intro n
  induction n with
  | zero =>
    intro x1 σ σ' r h
    cases h
  | succ n ih =>
  intro x1 σ σ' r h
  unfold g_Li_readForms_41 at h
  refine a_iload_n i_Li_readForms_41 rfl ?_
  refine a_aload_n i_Li_readForms_42 rfl ?_
  refine a_get (v := .int (σ.1.1 49 6)) i_Li_readForms_43 rfl rfl ?_
  by_cases c4 : x1 < (σ.1.1 49 6)
  · rw [if_pos c4] at h
    refine a_icf i_Li_readForms_46 (Int32.not_le.mpr c4) ?_
    refine a_aload_n i_Li_readForms_49 rfl ?_
    refine a_get (v := .ref 51) i_Li_readForms_50 rfl rfl ?_
    obtain ⟨v7, σ7, e7, h⟩ := am_bd_some h
    refine am_cvd (rest := []) [] c_Li_readForms_53 ⟨by decide, _, rfl⟩ rfl (Nat.le_of_ble_eq_true rfl) (t_Cu_uleb cu_51 e7) ?_
    refine a_lstore_n i_Li_readForms_56 rfl ?_
    refine a_aload_n i_Li_readForms_57 rfl ?_
    refine a_get (v := .ref 51) i_Li_readForms_58 rfl rfl ?_
    obtain ⟨v11, σ11, e11, h⟩ := am_bd_some h
    refine am_cvd (rest := []) [] c_Li_readForms_61 ⟨by decide, _, rfl⟩ rfl (Nat.le_of_ble_eq_true rfl) (t_Cu_uleb cu_51 e11) ?_
    refine a_lstore i_Li_readForms_64 rfl ?_
    refine a_lload i_Li_readForms_66 rfl ?_
    refine a_ldc2 i_Li_readForms_68 ?_
    refine a_lcmp i_Li_readForms_71 ?_
    by_cases c16 : (lg_cmp v11 8) = 0
    · rw [if_pos c16] at h
      refine a_ift i_Li_readForms_72 c16 ?_
      exact t_Li_readForms_84 (fun h => ih h) h
    · rw [if_neg c16] at h
      refine a_iff i_Li_readForms_72 c16 ?_
      refine a_lload i_Li_readForms_75 rfl ?_
      refine a_ldc2 i_Li_readForms_77 ?_
      refine a_lcmp i_Li_readForms_80 ?_
      by_cases c20 : (lg_cmp v11 31) = 0
      · rw [if_pos c20] at h
        refine a_iff i_Li_readForms_81 c20 ?_
        exact t_Li_readForms_84 (fun h => ih h) h
      · rw [if_neg c20] at h
        refine a_ift i_Li_readForms_81 c20 ?_
        refine a_iconst i_Li_readForms_88 ?_
        exact t_Li_readForms_89 (fun h => ih h) h
  · rw [if_neg c4] at h
    refine a_ict i_Li_readForms_46 (Int32.not_lt.mp c4) ?_
    refine a_iconst i_Li_readForms_200 ?_
    exact am_ret_z ok_Li_readForms rfl rfl (Or.inr rfl) (am_lf_i h)
def g_Li_readForms (σ : am_S) : Option (Int32 × am_S) :=
  am_bd (g_Cu_number 51 (1) σ) fun v5 σ5 =>
  if (σ5.1.1 51 3) = 0 then
    if 6 < v5.toInt32 then
      g_Li_readForms_37 (am_fi (am_fi σ5 49 6 v5.toInt32) 49 7 (-1))
    else
      g_Li_readForms_41 4000 (0) (am_fi (am_fi σ5 49 6 v5.toInt32) 49 7 (-1))
  else
    g_Li_readForms_37 (am_fi (am_fi σ5 49 6 v5.toInt32) 49 7 (-1))
set_option maxHeartbeats 4000000 in
theorem t_Li_readForms_0 {σ σ' : am_S} {r : Int32} (h : g_Li_readForms σ = some (r, σ')) : am_A S_c M_Li_readForms (0, [some (.ref 49), none, none, none, none, none, none, none], [], σ) (am_r S_c (fun q τ => q = some (.int r) ∧ τ = σ')) := by
  unfold g_Li_readForms at h
  refine a_aload_n i_Li_readForms_0 rfl ?_
  refine a_aload_n i_Li_readForms_1 rfl ?_
  refine a_get (v := .ref 51) i_Li_readForms_2 rfl rfl ?_
  refine a_iconst i_Li_readForms_5 ?_
  obtain ⟨v5, σ5, e5, h⟩ := am_bd_some h
  refine am_cvd (rest := [.ref 49]) [.int 1] c_Li_readForms_6 ⟨by decide, _, rfl⟩ rfl (Nat.le_of_ble_eq_true rfl) (t_Cu_number cu_51 e5) ?_
  refine a_l2i i_Li_readForms_9 ?_
  refine a_puti i_Li_readForms_10 rfl trivial ?_
  refine a_aload_n i_Li_readForms_13 rfl ?_
  refine a_iconst i_Li_readForms_14 ?_
  refine a_puti i_Li_readForms_15 rfl trivial ?_
  refine a_aload_n i_Li_readForms_18 rfl ?_
  refine a_get (v := .ref 51) i_Li_readForms_19 rfl rfl ?_
  refine a_get (v := .int (σ5.1.1 51 3)) i_Li_readForms_22 rfl rfl ?_
  by_cases c14 : (σ5.1.1 51 3) = 0
  · rw [if_pos c14] at h
    refine a_iff i_Li_readForms_25 c14 ?_
    refine a_aload_n i_Li_readForms_28 rfl ?_
    refine a_get (v := .int v5.toInt32) i_Li_readForms_29 rfl rfl ?_
    refine a_bipush i_Li_readForms_32 ?_
    by_cases c18 : 6 < v5.toInt32
    · rw [if_pos c18] at h
      refine a_icf i_Li_readForms_34 (Int32.not_le.mpr c18) ?_
      exact am_wk (t_Li_readForms_37 h) ⟨Or.inl rfl, Or.inl rfl, Or.inl rfl, Or.inl rfl, Or.inl rfl, Or.inl rfl, Or.inl rfl, Or.inl rfl, trivial⟩
    · rw [if_neg c18] at h
      refine a_ict i_Li_readForms_34 (Int32.not_lt.mp c18) ?_
      refine a_iconst i_Li_readForms_39 ?_
      refine a_istore_n i_Li_readForms_40 rfl ?_
      exact t_Li_readForms_41 4000 h
  · rw [if_neg c14] at h
    refine a_ift i_Li_readForms_25 c14 ?_
    exact am_wk (t_Li_readForms_37 h) ⟨Or.inl rfl, Or.inl rfl, Or.inl rfl, Or.inl rfl, Or.inl rfl, Or.inl rfl, Or.inl rfl, Or.inl rfl, trivial⟩
theorem t_Li_readForms {σ σ' : am_S} {r : Int32} (h : g_Li_readForms σ = some (r, σ')) : am_Mt S_c M_Li_readForms [.ref 49] σ (fun q τ => q = some (.int r) ∧ τ = σ') :=
  am_M_of ok_Li_readForms (Nat.le_of_ble_eq_true rfl) (t_Li_readForms_0 h)
def g_Li_readValue (x1 : Int32) (σ : am_S) : Option (Int64 × am_S) :=
  if x1 = 5 then
    am_bd (g_Cu_number 51 (2) σ) fun v6 σ6 =>
    some (v6, σ6)
  else
  if x1 = 8 then
    am_bd (g_Cu_text 51 σ) fun v5 σ5 =>
    some (v5.toInt64, σ5)
  else
  if x1 = 11 then
    am_bd (g_Cu_number 51 (1) σ) fun v6 σ6 =>
    some (v6, σ6)
  else
  if x1 = 31 then
    am_bd (g_Cu_number 51 (4) σ) fun v6 σ6 =>
    some (v6, σ6)
  else
  am_bd (g_Cu_uleb 51 σ) fun v5 σ5 =>
  some (v5, σ5)
set_option maxHeartbeats 4000000 in
theorem t_Li_readValue_0 {x1 : Int32} {σ σ' : am_S} {r : Int64} (h : g_Li_readValue x1 σ = some (r, σ')) : am_A S_c M_Li_readValue (0, [some (.ref 49), some (.int x1)], [], σ) (am_r S_c (fun q τ => q = some (.long r) ∧ τ = σ')) := by
  unfold g_Li_readValue at h
  refine a_iload_n i_Li_readValue_0 rfl ?_
  by_cases d2_0 : x1 = 5
  · rw [if_pos d2_0] at h
    refine a_lks 0 i_Li_readValue_1 rfl (by rw [d2_0]; decide) rfl ?_
    refine a_aload_n i_Li_readValue_71 rfl ?_
    refine a_get (v := .ref 51) i_Li_readValue_72 rfl rfl ?_
    refine a_iconst i_Li_readValue_75 ?_
    obtain ⟨v6, σ6, e6, h⟩ := am_bd_some h
    refine am_cvd (rest := []) [.int 2] c_Li_readValue_76 ⟨by decide, _, rfl⟩ rfl (Nat.le_of_ble_eq_true rfl) (t_Cu_number cu_51 e6) ?_
    exact am_ret_l ok_Li_readValue rfl rfl (am_lf_l h)
  rw [if_neg d2_0] at h
  by_cases d2_1 : x1 = 8
  · rw [if_pos d2_1] at h
    refine a_lks 1 i_Li_readValue_1 rfl (by rw [d2_1]; decide) rfl ?_
    refine a_aload_n i_Li_readValue_44 rfl ?_
    refine a_get (v := .ref 51) i_Li_readValue_45 rfl rfl ?_
    obtain ⟨v5, σ5, e5, h⟩ := am_bd_some h
    refine am_cvd (rest := []) [] c_Li_readValue_48 ⟨by decide, _, rfl⟩ rfl (Nat.le_of_ble_eq_true rfl) (t_Cu_text cu_51 e5) ?_
    refine a_i2l i_Li_readValue_51 ?_
    exact am_ret_l ok_Li_readValue rfl rfl (am_lf_l h)
  rw [if_neg d2_1] at h
  by_cases d2_2 : x1 = 11
  · rw [if_pos d2_2] at h
    refine a_lks 2 i_Li_readValue_1 rfl (by rw [d2_2]; decide) rfl ?_
    refine a_aload_n i_Li_readValue_62 rfl ?_
    refine a_get (v := .ref 51) i_Li_readValue_63 rfl rfl ?_
    refine a_iconst i_Li_readValue_66 ?_
    obtain ⟨v6, σ6, e6, h⟩ := am_bd_some h
    refine am_cvd (rest := []) [.int 1] c_Li_readValue_67 ⟨by decide, _, rfl⟩ rfl (Nat.le_of_ble_eq_true rfl) (t_Cu_number cu_51 e6) ?_
    exact am_ret_l ok_Li_readValue rfl rfl (am_lf_l h)
  rw [if_neg d2_2] at h
  by_cases d2_3 : x1 = 31
  · rw [if_pos d2_3] at h
    refine a_lks 3 i_Li_readValue_1 rfl (by rw [d2_3]; decide) rfl ?_
    refine a_aload_n i_Li_readValue_53 rfl ?_
    refine a_get (v := .ref 51) i_Li_readValue_54 rfl rfl ?_
    refine a_iconst i_Li_readValue_57 ?_
    obtain ⟨v6, σ6, e6, h⟩ := am_bd_some h
    refine am_cvd (rest := []) [.int 4] c_Li_readValue_58 ⟨by decide, _, rfl⟩ rfl (Nat.le_of_ble_eq_true rfl) (t_Cu_number cu_51 e6) ?_
    exact am_ret_l ok_Li_readValue rfl rfl (am_lf_l h)
  rw [if_neg d2_3] at h
  refine a_lksd i_Li_readValue_1 (lks_n _ _ _ (List.forall_mem_cons.mpr ⟨lv_neT d2_0 (a := 5) (by decide), List.forall_mem_cons.mpr ⟨lv_neT d2_1 (a := 8) (by decide), List.forall_mem_cons.mpr ⟨lv_neT d2_2 (a := 11) (by decide), List.forall_mem_cons.mpr ⟨lv_neT d2_3 (a := 31) (by decide), fun _ h9 => absurd h9 List.not_mem_nil⟩⟩⟩⟩)) rfl ?_
  refine a_aload_n i_Li_readValue_80 rfl ?_
  refine a_get (v := .ref 51) i_Li_readValue_81 rfl rfl ?_
  obtain ⟨v5, σ5, e5, h⟩ := am_bd_some h
  refine am_cvd (rest := []) [] c_Li_readValue_84 ⟨by decide, _, rfl⟩ rfl (Nat.le_of_ble_eq_true rfl) (t_Cu_uleb cu_51 e5) ?_
  exact am_ret_l ok_Li_readValue rfl rfl (am_lf_l h)
theorem t_Li_readValue {x1 : Int32} {σ σ' : am_S} {r : Int64} (h : g_Li_readValue x1 σ = some (r, σ')) : am_Mt S_c M_Li_readValue [.ref 49, .int x1] σ (fun q τ => q = some (.long r) ∧ τ = σ') :=
  am_M_of ok_Li_readValue (Nat.le_of_ble_eq_true rfl) (t_Li_readValue_0 h)
def g_Li_readName_90 (go : Int32 → Int32 → am_S → Option (Int32 × am_S)) (x1 : Int32) (x2 : Int32) (σ : am_S) : Option (Int32 × am_S) :=
  go x1 (x2 + 1) σ
set_option maxHeartbeats 4000000 in
theorem t_Li_readName_90 {x1 : Int32} {x2 : Int32} {σ σ' : am_S} {r : Int32} {go : Int32 → Int32 → am_S → Option (Int32 × am_S)} (hgo : ∀ {x1 : Int32} {x2 : Int32} {σ σ' : am_S} {r : Int32}, go x1 x2 σ = some (r, σ') → am_A S_c M_Li_readName (4, [some (.ref 49), some (.int x1), some (.int x2), none, none], [], σ) (am_r S_c (fun q τ => q = some (.int r) ∧ τ = σ'))) (h : g_Li_readName_90 go x1 x2 σ = some (r, σ')) : am_A S_c M_Li_readName (90, [some (.ref 49), some (.int x1), some (.int x2), none, none], [], σ) (am_r S_c (fun q τ => q = some (.int r) ∧ τ = σ')) := by
  unfold g_Li_readName_90 at h
  refine a_iinc i_Li_readName_90 rfl rfl ?_
  refine a_goto i_Li_readName_93 ?_
  exact hgo h
def g_Li_readName_87 (go : Int32 → Int32 → am_S → Option (Int32 × am_S)) (x1 : Int32) (x2 : Int32) (y0 : Int32) (σ : am_S) : Option (Int32 × am_S) :=
  am_gd (z01 y0) <|
  g_Li_readName_90 go x1 x2 (am_fi σ 51 3 y0)
set_option maxHeartbeats 4000000 in
theorem t_Li_readName_87 {x1 : Int32} {x2 : Int32} {y0 : Int32} {σ σ' : am_S} {r : Int32} {go : Int32 → Int32 → am_S → Option (Int32 × am_S)} (hgo : ∀ {x1 : Int32} {x2 : Int32} {σ σ' : am_S} {r : Int32}, go x1 x2 σ = some (r, σ') → am_A S_c M_Li_readName (4, [some (.ref 49), some (.int x1), some (.int x2), none, none], [], σ) (am_r S_c (fun q τ => q = some (.int r) ∧ τ = σ'))) (h : g_Li_readName_87 go x1 x2 y0 σ = some (r, σ')) : am_A S_c M_Li_readName (87, [some (.ref 49), some (.int x1), some (.int x2), none, none], [.int y0, .ref 51], σ) (am_r S_c (fun q τ => q = some (.int r) ∧ τ = σ')) := by
  unfold g_Li_readName_87 at h
  obtain ⟨c1, h⟩ := gd_some h
  refine a_puti i_Li_readName_87 rfl (z01_or c1) ?_
  exact t_Li_readName_90 hgo h
def g_Li_readName_82 (go : Int32 → Int32 → am_S → Option (Int32 × am_S)) (x1 : Int32) (x2 : Int32) (σ : am_S) : Option (Int32 × am_S) :=
  g_Li_readName_87 go x1 x2 (1) σ
set_option maxHeartbeats 4000000 in
theorem t_Li_readName_82 {x1 : Int32} {x2 : Int32} {σ σ' : am_S} {r : Int32} {go : Int32 → Int32 → am_S → Option (Int32 × am_S)} (hgo : ∀ {x1 : Int32} {x2 : Int32} {σ σ' : am_S} {r : Int32}, go x1 x2 σ = some (r, σ') → am_A S_c M_Li_readName (4, [some (.ref 49), some (.int x1), some (.int x2), none, none], [], σ) (am_r S_c (fun q τ => q = some (.int r) ∧ τ = σ'))) (h : g_Li_readName_82 go x1 x2 σ = some (r, σ')) : am_A S_c M_Li_readName (82, [some (.ref 49), some (.int x1), some (.int x2), none, none], [.ref 51], σ) (am_r S_c (fun q τ => q = some (.int r) ∧ τ = σ')) := by
  unfold g_Li_readName_82 at h
  refine a_iconst i_Li_readName_82 ?_
  refine a_goto i_Li_readName_83 ?_
  exact t_Li_readName_87 hgo h
def g_Li_readName_62 (go : Int32 → Int32 → am_S → Option (Int32 × am_S)) (x2 : Int32) (y0 : Int32) (σ : am_S) : Option (Int32 × am_S) :=
  if (σ.1.1 51 3) = 0 then
    if y0 = (-1) then
      g_Li_readName_82 go y0 x2 σ
    else
      g_Li_readName_87 go y0 x2 (0) σ
  else
    g_Li_readName_82 go y0 x2 σ
set_option maxHeartbeats 4000000 in
theorem t_Li_readName_62 {x2 : Int32} {y0 : Int32} {σ σ' : am_S} {r : Int32} {go : Int32 → Int32 → am_S → Option (Int32 × am_S)} (hgo : ∀ {x1 : Int32} {x2 : Int32} {σ σ' : am_S} {r : Int32}, go x1 x2 σ = some (r, σ') → am_A S_c M_Li_readName (4, [some (.ref 49), some (.int x1), some (.int x2), none, none], [], σ) (am_r S_c (fun q τ => q = some (.int r) ∧ τ = σ'))) (h : g_Li_readName_62 go x2 y0 σ = some (r, σ')) : am_A S_c M_Li_readName (62, [some (.ref 49), none, some (.int x2), none, none], [.int y0], σ) (am_r S_c (fun q τ => q = some (.int r) ∧ τ = σ')) := by
  unfold g_Li_readName_62 at h
  refine a_istore_n i_Li_readName_62 rfl ?_
  refine a_aload_n i_Li_readName_63 rfl ?_
  refine a_get (v := .ref 51) i_Li_readName_64 rfl rfl ?_
  refine a_aload_n i_Li_readName_67 rfl ?_
  refine a_get (v := .ref 51) i_Li_readName_68 rfl rfl ?_
  refine a_get (v := .int (σ.1.1 51 3)) i_Li_readName_71 rfl rfl ?_
  by_cases c7 : (σ.1.1 51 3) = 0
  · rw [if_pos c7] at h
    refine a_iff i_Li_readName_74 c7 ?_
    refine a_iload_n i_Li_readName_77 rfl ?_
    refine a_iconst i_Li_readName_78 ?_
    by_cases c10 : y0 = (-1)
    · rw [if_pos c10] at h
      refine a_icf i_Li_readName_79 c10 ?_
      exact t_Li_readName_82 hgo h
    · rw [if_neg c10] at h
      refine a_ict i_Li_readName_79 c10 ?_
      refine a_iconst i_Li_readName_86 ?_
      exact t_Li_readName_87 hgo h
  · rw [if_neg c7] at h
    refine a_ift i_Li_readName_74 c7 ?_
    exact t_Li_readName_82 hgo h
def g_Li_readName_96 (x1 : Int32) (σ : am_S) : Option (Int32 × am_S) :=
  some (x1, σ)
set_option maxHeartbeats 4000000 in
theorem t_Li_readName_96 {x1 : Int32} {σ σ' : am_S} {r : Int32} (h : g_Li_readName_96 x1 σ = some (r, σ')) : am_A S_c M_Li_readName (96, [none, some (.int x1), none, none, none], [], σ) (am_r S_c (fun q τ => q = some (.int r) ∧ τ = σ')) := by
  unfold g_Li_readName_96 at h
  refine a_iload_n i_Li_readName_96 rfl ?_
  exact am_ret_i ok_Li_readName rfl rfl (am_lf_i h)
def g_Li_readName_4 : Nat → Int32 → Int32 → am_S → Option (Int32 × am_S)
  | 0, _, _, _ => none
  | n + 1, x1, x2, σ =>
  if x2 < (σ.1.1 49 6) then
    if x2 < 6 then
      am_gd (inb x2 6) <|
      am_bd (g_Li_readValue (σ.2.1 50 x2.toNatClampNeg) σ) fun v13 σ13 =>
      if x2 = (σ13.1.1 49 7) then
        am_gd (inb x2 6) <|
        if (σ13.2.1 50 x2.toNatClampNeg) = 8 then
          g_Li_readName_62 (g_Li_readName_4 n) x2 v13.toInt32 σ13
        else
          am_bd (g_Se_textAt (3) v13 σ13) fun v29 σ29 =>
          g_Li_readName_62 (g_Li_readName_4 n) x2 v29 σ29
      else
        g_Li_readName_90 (g_Li_readName_4 n) x1 x2 σ13
    else
      g_Li_readName_96 x1 σ
  else
    g_Li_readName_96 x1 σ
set_option maxHeartbeats 4000000 in
theorem t_Li_readName_4 : ∀ (n : Nat) {x1 : Int32} {x2 : Int32} {σ σ' : am_S} {r : Int32} (h : g_Li_readName_4 n x1 x2 σ = some (r, σ')), am_A S_c M_Li_readName (4, [some (.ref 49), some (.int x1), some (.int x2), none, none], [], σ) (am_r S_c (fun q τ => q = some (.int r) ∧ τ = σ')) := by
  intro n
  induction n with
  | zero =>
    intro x1 x2 σ σ' r h
    cases h
  | succ n ih =>
  intro x1 x2 σ σ' r h
  unfold g_Li_readName_4 at h
  refine a_iload_n i_Li_readName_4 rfl ?_
  refine a_aload_n i_Li_readName_5 rfl ?_
  refine a_get (v := .int (σ.1.1 49 6)) i_Li_readName_6 rfl rfl ?_
  by_cases c4 : x2 < (σ.1.1 49 6)
  · rw [if_pos c4] at h
    refine a_icf i_Li_readName_9 (Int32.not_le.mpr c4) ?_
    refine a_iload_n i_Li_readName_12 rfl ?_
    refine a_bipush i_Li_readName_13 ?_
    by_cases c7 : x2 < 6
    · rw [if_pos c7] at h
      refine a_icf i_Li_readName_15 (Int32.not_le.mpr c7) ?_
      refine a_aload_n i_Li_readName_18 rfl ?_
      refine a_aload_n i_Li_readName_19 rfl ?_
      refine a_get (v := .ref 50) i_Li_readName_20 rfl rfl ?_
      refine a_iload_n i_Li_readName_23 rfl ?_
      obtain ⟨c12, h⟩ := gd_some h
      refine a_ial (n := 6) i_Li_readName_24 (by decide) rfl rfl (inb_in c12) ?_
      obtain ⟨v13, σ13, e13, h⟩ := am_bd_some h
      refine am_cvd (rest := []) [.int (σ.2.1 50 x2.toNatClampNeg)] c_Li_readName_25 ⟨by decide, _, rfl⟩ rfl (Nat.le_of_ble_eq_true rfl) (t_Li_readValue e13) ?_
      refine a_lstore_n i_Li_readName_28 rfl ?_
      refine a_iload_n i_Li_readName_29 rfl ?_
      refine a_aload_n i_Li_readName_30 rfl ?_
      refine a_get (v := .int (σ13.1.1 49 7)) i_Li_readName_31 rfl rfl ?_
      by_cases c18 : x2 = (σ13.1.1 49 7)
      · rw [if_pos c18] at h
        refine a_icf i_Li_readName_34 c18 ?_
        refine a_aload_n i_Li_readName_37 rfl ?_
        refine a_get (v := .ref 50) i_Li_readName_38 rfl rfl ?_
        refine a_iload_n i_Li_readName_41 rfl ?_
        obtain ⟨c22, h⟩ := gd_some h
        refine a_ial (n := 6) i_Li_readName_42 (by decide) rfl rfl (inb_in c22) ?_
        refine a_bipush i_Li_readName_43 ?_
        by_cases c24 : (σ13.2.1 50 x2.toNatClampNeg) = 8
        · rw [if_pos c24] at h
          refine a_icf i_Li_readName_45 c24 ?_
          refine a_lload_n i_Li_readName_48 rfl ?_
          refine a_l2i i_Li_readName_49 ?_
          refine a_goto i_Li_readName_50 ?_
          exact am_wk (t_Li_readName_62 (fun h => ih h) h) ⟨Or.inr rfl, Or.inl rfl, Or.inr rfl, Or.inl rfl, Or.inl rfl, trivial⟩
        · rw [if_neg c24] at h
          refine a_ict i_Li_readName_45 c24 ?_
          refine a_aload_n i_Li_readName_53 rfl ?_
          refine a_get (v := .ref 2) i_Li_readName_54 rfl rfl ?_
          refine a_iconst i_Li_readName_57 ?_
          refine a_lload_n i_Li_readName_58 rfl ?_
          obtain ⟨v29, σ29, e29, h⟩ := am_bd_some h
          refine am_cvd (rest := []) [.int 3, .long v13] c_Li_readName_59 ⟨by decide, _, rfl⟩ rfl (Nat.le_of_ble_eq_true rfl) (t_Se_textAt e29) ?_
          exact am_wk (t_Li_readName_62 (fun h => ih h) h) ⟨Or.inr rfl, Or.inl rfl, Or.inr rfl, Or.inl rfl, Or.inl rfl, trivial⟩
      · rw [if_neg c18] at h
        refine a_ict i_Li_readName_34 c18 ?_
        exact am_wk (t_Li_readName_90 (fun h => ih h) h) ⟨Or.inr rfl, Or.inr rfl, Or.inr rfl, Or.inl rfl, Or.inl rfl, trivial⟩
    · rw [if_neg c7] at h
      refine a_ict i_Li_readName_15 (Int32.not_lt.mp c7) ?_
      exact am_wk (t_Li_readName_96 h) ⟨Or.inl rfl, Or.inr rfl, Or.inl rfl, Or.inl rfl, Or.inl rfl, trivial⟩
  · rw [if_neg c4] at h
    refine a_ict i_Li_readName_9 (Int32.not_lt.mp c4) ?_
    exact am_wk (t_Li_readName_96 h) ⟨Or.inl rfl, Or.inr rfl, Or.inl rfl, Or.inl rfl, Or.inl rfl, trivial⟩
def g_Li_readName (σ : am_S) : Option (Int32 × am_S) :=
  g_Li_readName_4 4000 (-1) (0) σ
set_option maxHeartbeats 4000000 in
theorem t_Li_readName_0 {σ σ' : am_S} {r : Int32} (h : g_Li_readName σ = some (r, σ')) : am_A S_c M_Li_readName (0, [some (.ref 49), none, none, none, none], [], σ) (am_r S_c (fun q τ => q = some (.int r) ∧ τ = σ')) := by
  unfold g_Li_readName at h
  refine a_iconst i_Li_readName_0 ?_
  refine a_istore_n i_Li_readName_1 rfl ?_
  refine a_iconst i_Li_readName_2 ?_
  refine a_istore_n i_Li_readName_3 rfl ?_
  exact t_Li_readName_4 4000 h
theorem t_Li_readName {σ σ' : am_S} {r : Int32} (h : g_Li_readName σ = some (r, σ')) : am_Mt S_c M_Li_readName [.ref 49] σ (fun q τ => q = some (.int r) ∧ τ = σ') :=
  am_M_of ok_Li_readName (Nat.le_of_ble_eq_true rfl) (t_Li_readName_0 h)
def g_Li_readNames_66 (σ : am_S) : Option (Int32 × am_S) :=
  some (0, σ)
set_option maxHeartbeats 4000000 in
theorem t_Li_readNames_66 {σ σ' : am_S} {r : Int32} (h : g_Li_readNames_66 σ = some (r, σ')) : am_A S_c M_Li_readNames (66, [none, none, none, none, none, none, none], [], σ) (am_r S_c (fun q τ => q = some (.int r) ∧ τ = σ')) := by
  unfold g_Li_readNames_66 at h
  refine a_iconst i_Li_readNames_66 ?_
  exact am_ret_z ok_Li_readNames rfl rfl (Or.inl rfl) (am_lf_i h)
def g_Li_readNames_109 (go : Int32 → Int32 → Int64 → Int32 → am_S → Option (Int32 × am_S)) (x1 : Int32) (x2 : Int32) (x3 : Int64) (x5 : Int32) (σ : am_S) : Option (Int32 × am_S) :=
  go x1 x2 x3 (x5 + 1) σ
set_option maxHeartbeats 4000000 in
theorem t_Li_readNames_109 {x1 : Int32} {x2 : Int32} {x3 : Int64} {x5 : Int32} {σ σ' : am_S} {r : Int32} {go : Int32 → Int32 → Int64 → Int32 → am_S → Option (Int32 × am_S)} (hgo : ∀ {x1 : Int32} {x2 : Int32} {x3 : Int64} {x5 : Int32} {σ σ' : am_S} {r : Int32}, go x1 x2 x3 x5 σ = some (r, σ') → am_A S_c M_Li_readNames (71, [some (.ref 49), some (.int x1), some (.int x2), some (.long x3), none, some (.int x5), none], [], σ) (am_r S_c (fun q τ => q = some (.int r) ∧ τ = σ'))) (h : g_Li_readNames_109 go x1 x2 x3 x5 σ = some (r, σ')) : am_A S_c M_Li_readNames (109, [some (.ref 49), some (.int x1), some (.int x2), some (.long x3), none, some (.int x5), none], [], σ) (am_r S_c (fun q τ => q = some (.int r) ∧ τ = σ')) := by
  unfold g_Li_readNames_109 at h
  refine a_iinc i_Li_readNames_109 rfl rfl ?_
  refine a_goto i_Li_readNames_112 ?_
  exact hgo h
def g_Li_readNames_130 (y0 : Int32) (σ : am_S) : Option (Int32 × am_S) :=
  am_gd (z01 y0) <|
  some (y0, σ)
set_option maxHeartbeats 4000000 in
theorem t_Li_readNames_130 {y0 : Int32} {σ σ' : am_S} {r : Int32} (h : g_Li_readNames_130 y0 σ = some (r, σ')) : am_A S_c M_Li_readNames (130, [none, none, none, none, none, none, none], [.int y0], σ) (am_r S_c (fun q τ => q = some (.int r) ∧ τ = σ')) := by
  unfold g_Li_readNames_130 at h
  obtain ⟨c1, h⟩ := gd_some h
  exact am_ret_z ok_Li_readNames rfl rfl (z01_or c1) (am_lf_i h)
def g_Li_readNames_115 (σ : am_S) : Option (Int32 × am_S) :=
  if (σ.1.1 51 3) = 0 then
    g_Li_readNames_130 (1) σ
  else
    g_Li_readNames_130 (0) σ
set_option maxHeartbeats 4000000 in
theorem t_Li_readNames_115 {σ σ' : am_S} {r : Int32} (h : g_Li_readNames_115 σ = some (r, σ')) : am_A S_c M_Li_readNames (115, [some (.ref 49), none, none, none, none, none, none], [], σ) (am_r S_c (fun q τ => q = some (.int r) ∧ τ = σ')) := by
  unfold g_Li_readNames_115 at h
  refine a_aload_n i_Li_readNames_115 rfl ?_
  refine a_get (v := .ref 51) i_Li_readNames_116 rfl rfl ?_
  refine a_get (v := .int (σ.1.1 51 3)) i_Li_readNames_119 rfl rfl ?_
  by_cases c4 : (σ.1.1 51 3) = 0
  · rw [if_pos c4] at h
    refine a_iff i_Li_readNames_122 c4 ?_
    refine a_iconst i_Li_readNames_125 ?_
    refine a_goto i_Li_readNames_126 ?_
    exact am_wk (t_Li_readNames_130 h) ⟨Or.inl rfl, Or.inl rfl, Or.inl rfl, Or.inl rfl, Or.inl rfl, Or.inl rfl, Or.inl rfl, trivial⟩
  · rw [if_neg c4] at h
    refine a_ift i_Li_readNames_122 c4 ?_
    refine a_iconst i_Li_readNames_129 ?_
    exact am_wk (t_Li_readNames_130 h) ⟨Or.inl rfl, Or.inl rfl, Or.inl rfl, Or.inl rfl, Or.inl rfl, Or.inl rfl, Or.inl rfl, trivial⟩
def g_Li_readNames_71 : Nat → Int32 → Int32 → Int64 → Int32 → am_S → Option (Int32 × am_S)
  | 0, _, _, _, _, _ => none
  | n + 1, x1, x2, x3, x5, σ =>
  if (lg_cmp x5.toInt64 x3) < 0 then
    if (σ.1.1 51 3) = 0 then
      am_bd (g_Li_readName σ) fun v11 σ11 =>
      if x2 = 0 then
        g_Li_readNames_109 (g_Li_readNames_71 n) x1 x2 x3 x5 σ11
      else
        am_bd (g_Ro_addFile x1 v11 σ11) fun _ σ19 =>
        g_Li_readNames_109 (g_Li_readNames_71 n) x1 x2 x3 x5 σ19
    else
      g_Li_readNames_115 σ
  else
    g_Li_readNames_115 σ
set_option maxHeartbeats 4000000 in
theorem t_Li_readNames_71 : ∀ (n : Nat) {x1 : Int32} {x2 : Int32} {x3 : Int64} {x5 : Int32} {σ σ' : am_S} {r : Int32} (h : g_Li_readNames_71 n x1 x2 x3 x5 σ = some (r, σ')), am_A S_c M_Li_readNames (71, [some (.ref 49), some (.int x1), some (.int x2), some (.long x3), none, some (.int x5), none], [], σ) (am_r S_c (fun q τ => q = some (.int r) ∧ τ = σ')) := by
  intro n
  induction n with
  | zero =>
    intro x1 x2 x3 x5 σ σ' r h
    cases h
  | succ n ih =>
  intro x1 x2 x3 x5 σ σ' r h
  unfold g_Li_readNames_71 at h
  refine a_iload i_Li_readNames_71 rfl ?_
  refine a_i2l i_Li_readNames_73 ?_
  refine a_lload_n i_Li_readNames_74 rfl ?_
  refine a_lcmp i_Li_readNames_75 ?_
  by_cases c5 : (lg_cmp x5.toInt64 x3) < 0
  · rw [if_pos c5] at h
    refine a_iff i_Li_readNames_76 (Int32.not_le.mpr c5) ?_
    refine a_aload_n i_Li_readNames_79 rfl ?_
    refine a_get (v := .ref 51) i_Li_readNames_80 rfl rfl ?_
    refine a_get (v := .int (σ.1.1 51 3)) i_Li_readNames_83 rfl rfl ?_
    by_cases c9 : (σ.1.1 51 3) = 0
    · rw [if_pos c9] at h
      refine a_iff i_Li_readNames_86 c9 ?_
      refine a_aload_n i_Li_readNames_89 rfl ?_
      obtain ⟨v11, σ11, e11, h⟩ := am_bd_some h
      refine am_cvd (rest := []) [] c_Li_readNames_90 ⟨by decide, _, rfl⟩ rfl (Nat.le_of_ble_eq_true rfl) (t_Li_readName e11) ?_
      refine a_istore i_Li_readNames_93 rfl ?_
      refine a_iload_n i_Li_readNames_95 rfl ?_
      by_cases c14 : x2 = 0
      · rw [if_pos c14] at h
        refine a_ift i_Li_readNames_96 c14 ?_
        exact am_wk (t_Li_readNames_109 (fun h => ih h) h) ⟨Or.inr rfl, Or.inr rfl, Or.inr rfl, Or.inr rfl, Or.inl rfl, Or.inr rfl, Or.inl rfl, trivial⟩
      · rw [if_neg c14] at h
        refine a_iff i_Li_readNames_96 c14 ?_
        refine a_aload_n i_Li_readNames_99 rfl ?_
        refine a_get (v := .ref 40) i_Li_readNames_100 rfl rfl ?_
        refine a_iload_n i_Li_readNames_103 rfl ?_
        refine a_iload i_Li_readNames_104 rfl ?_
        obtain ⟨v19, σ19, e19, h⟩ := am_bd_some h
        refine am_cvd (rest := []) [.int x1, .int v11] c_Li_readNames_106 ⟨by decide, _, rfl⟩ rfl (Nat.le_of_ble_eq_true rfl) (t_Ro_addFile e19) ?_
        exact am_wk (t_Li_readNames_109 (fun h => ih h) h) ⟨Or.inr rfl, Or.inr rfl, Or.inr rfl, Or.inr rfl, Or.inl rfl, Or.inr rfl, Or.inl rfl, trivial⟩
    · rw [if_neg c9] at h
      refine a_ift i_Li_readNames_86 c9 ?_
      exact am_wk (t_Li_readNames_115 h) ⟨Or.inr rfl, Or.inl rfl, Or.inl rfl, Or.inl rfl, Or.inl rfl, Or.inl rfl, Or.inl rfl, trivial⟩
  · rw [if_neg c5] at h
    refine a_ift i_Li_readNames_76 (Int32.not_lt.mp c5) ?_
    exact am_wk (t_Li_readNames_115 h) ⟨Or.inr rfl, Or.inl rfl, Or.inl rfl, Or.inl rfl, Or.inl rfl, Or.inl rfl, Or.inl rfl, trivial⟩
def g_Li_readNames_61 (x1 : Int32) (x2 : Int32) (x3 : Int64) (y0 : Int32) (y1 : Int64) (σ : am_S) : Option (Int32 × am_S) :=
  if 0 < (lg_cmp y1 y0.toInt64) then
    g_Li_readNames_66 σ
  else
    g_Li_readNames_71 4000 x1 x2 x3 (0) σ
set_option maxHeartbeats 4000000 in
theorem t_Li_readNames_61 {x1 : Int32} {x2 : Int32} {x3 : Int64} {y0 : Int32} {y1 : Int64} {σ σ' : am_S} {r : Int32} (h : g_Li_readNames_61 x1 x2 x3 y0 y1 σ = some (r, σ')) : am_A S_c M_Li_readNames (61, [some (.ref 49), some (.int x1), some (.int x2), some (.long x3), none, none, none], [.int y0, .long y1], σ) (am_r S_c (fun q τ => q = some (.int r) ∧ τ = σ')) := by
  unfold g_Li_readNames_61 at h
  refine a_i2l i_Li_readNames_61 ?_
  refine a_lcmp i_Li_readNames_62 ?_
  by_cases c3 : 0 < (lg_cmp y1 y0.toInt64)
  · rw [if_pos c3] at h
    refine a_iff i_Li_readNames_63 (Int32.not_le.mpr c3) ?_
    exact am_wk (t_Li_readNames_66 h) ⟨Or.inl rfl, Or.inl rfl, Or.inl rfl, Or.inl rfl, Or.inl rfl, Or.inl rfl, Or.inl rfl, trivial⟩
  · rw [if_neg c3] at h
    refine a_ift i_Li_readNames_63 (Int32.not_lt.mp c3) ?_
    refine a_iconst i_Li_readNames_68 ?_
    refine a_istore i_Li_readNames_69 rfl ?_
    exact t_Li_readNames_71 4000 h
def g_Li_readNames_42 (x1 : Int32) (x2 : Int32) (x3 : Int64) (σ : am_S) : Option (Int32 × am_S) :=
  if (lg_cmp x3 0) < 0 then
    g_Li_readNames_66 σ
  else
    if x2 = 0 then
      g_Li_readNames_61 x1 x2 x3 (3000) x3 σ
    else
      g_Li_readNames_61 x1 x2 x3 (30) x3 σ
set_option maxHeartbeats 4000000 in
theorem t_Li_readNames_42 {x1 : Int32} {x2 : Int32} {x3 : Int64} {σ σ' : am_S} {r : Int32} (h : g_Li_readNames_42 x1 x2 x3 σ = some (r, σ')) : am_A S_c M_Li_readNames (42, [some (.ref 49), some (.int x1), some (.int x2), some (.long x3), none, none, none], [], σ) (am_r S_c (fun q τ => q = some (.int r) ∧ τ = σ')) := by
  unfold g_Li_readNames_42 at h
  refine a_lload_n i_Li_readNames_42 rfl ?_
  refine a_lconst i_Li_readNames_43 ?_
  refine a_lcmp i_Li_readNames_44 ?_
  by_cases c4 : (lg_cmp x3 0) < 0
  · rw [if_pos c4] at h
    refine a_ift i_Li_readNames_45 c4 ?_
    exact am_wk (t_Li_readNames_66 h) ⟨Or.inl rfl, Or.inl rfl, Or.inl rfl, Or.inl rfl, Or.inl rfl, Or.inl rfl, Or.inl rfl, trivial⟩
  · rw [if_neg c4] at h
    refine a_iff i_Li_readNames_45 c4 ?_
    refine a_lload_n i_Li_readNames_48 rfl ?_
    refine a_iload_n i_Li_readNames_49 rfl ?_
    by_cases c7 : x2 = 0
    · rw [if_pos c7] at h
      refine a_ift i_Li_readNames_50 c7 ?_
      refine a_sipush i_Li_readNames_58 ?_
      exact t_Li_readNames_61 h
    · rw [if_neg c7] at h
      refine a_iff i_Li_readNames_50 c7 ?_
      refine a_bipush i_Li_readNames_53 ?_
      refine a_goto i_Li_readNames_55 ?_
      exact t_Li_readNames_61 h
def g_Li_readNames (x1 : Int32) (x2 : Int32) (σ : am_S) : Option (Int32 × am_S) :=
  am_bd (g_Li_readForms σ) fun v2 σ2 =>
  if v2 = 0 then
    some (0, σ2)
  else
    am_bd (g_Cu_uleb 51 σ2) fun v6 σ6 =>
    if (σ6.1.1 51 3) = 0 then
      if (σ6.1.1 49 6) = 0 then
        if x2 = 0 then
          some (1, σ6)
        else
          g_Li_readNames_42 x1 x2 v6 σ6
      else
        g_Li_readNames_42 x1 x2 v6 σ6
    else
      some (0, σ6)
set_option maxHeartbeats 4000000 in
theorem t_Li_readNames_0 {x1 : Int32} {x2 : Int32} {σ σ' : am_S} {r : Int32} (h : g_Li_readNames x1 x2 σ = some (r, σ')) : am_A S_c M_Li_readNames (0, [some (.ref 49), some (.int x1), some (.int x2), none, none, none, none], [], σ) (am_r S_c (fun q τ => q = some (.int r) ∧ τ = σ')) := by
  unfold g_Li_readNames at h
  refine a_aload_n i_Li_readNames_0 rfl ?_
  obtain ⟨v2, σ2, e2, h⟩ := am_bd_some h
  refine am_cvd (rest := []) [] c_Li_readNames_1 ⟨by decide, _, rfl⟩ rfl (Nat.le_of_ble_eq_true rfl) (t_Li_readForms e2) ?_
  by_cases c3 : v2 = 0
  · rw [if_pos c3] at h
    refine a_iff i_Li_readNames_4 c3 ?_
    refine a_iconst i_Li_readNames_7 ?_
    exact am_ret_z ok_Li_readNames rfl rfl (Or.inl rfl) (am_lf_i h)
  · rw [if_neg c3] at h
    refine a_ift i_Li_readNames_4 c3 ?_
    refine a_aload_n i_Li_readNames_9 rfl ?_
    refine a_get (v := .ref 51) i_Li_readNames_10 rfl rfl ?_
    obtain ⟨v6, σ6, e6, h⟩ := am_bd_some h
    refine am_cvd (rest := []) [] c_Li_readNames_13 ⟨by decide, _, rfl⟩ rfl (Nat.le_of_ble_eq_true rfl) (t_Cu_uleb cu_51 e6) ?_
    refine a_lstore_n i_Li_readNames_16 rfl ?_
    refine a_aload_n i_Li_readNames_17 rfl ?_
    refine a_get (v := .ref 51) i_Li_readNames_18 rfl rfl ?_
    refine a_get (v := .int (σ6.1.1 51 3)) i_Li_readNames_21 rfl rfl ?_
    by_cases c11 : (σ6.1.1 51 3) = 0
    · rw [if_pos c11] at h
      refine a_ift i_Li_readNames_24 c11 ?_
      refine a_aload_n i_Li_readNames_29 rfl ?_
      refine a_get (v := .int (σ6.1.1 49 6)) i_Li_readNames_30 rfl rfl ?_
      by_cases c14 : (σ6.1.1 49 6) = 0
      · rw [if_pos c14] at h
        refine a_iff i_Li_readNames_33 c14 ?_
        refine a_iload_n i_Li_readNames_36 rfl ?_
        by_cases c16 : x2 = 0
        · rw [if_pos c16] at h
          refine a_iff i_Li_readNames_37 c16 ?_
          refine a_iconst i_Li_readNames_40 ?_
          exact am_ret_z ok_Li_readNames rfl rfl (Or.inr rfl) (am_lf_i h)
        · rw [if_neg c16] at h
          refine a_ift i_Li_readNames_37 c16 ?_
          exact t_Li_readNames_42 h
      · rw [if_neg c14] at h
        refine a_ift i_Li_readNames_33 c14 ?_
        exact t_Li_readNames_42 h
    · rw [if_neg c11] at h
      refine a_iff i_Li_readNames_24 c11 ?_
      refine a_iconst i_Li_readNames_27 ?_
      exact am_ret_z ok_Li_readNames rfl rfl (Or.inl rfl) (am_lf_i h)
theorem t_Li_readNames {x1 : Int32} {x2 : Int32} {σ σ' : am_S} {r : Int32} (h : g_Li_readNames x1 x2 σ = some (r, σ')) : am_Mt S_c M_Li_readNames [.ref 49, .int x1, .int x2] σ (fun q τ => q = some (.int r) ∧ τ = σ') :=
  am_M_of ok_Li_readNames (Nat.le_of_ble_eq_true rfl) (t_Li_readNames_0 h)
def g_Li_restart (σ : am_S) : Option (Unit × am_S) :=
  some ((), am_fi (am_fl (am_fl σ 49 12 0) 49 13 1) 49 14 1)
set_option maxHeartbeats 4000000 in
theorem t_Li_restart_0 {σ σ' : am_S} {r : Unit} (h : g_Li_restart σ = some (r, σ')) : am_A S_c M_Li_restart (0, [some (.ref 49)], [], σ) (am_r S_c (fun q τ => q = none ∧ τ = σ')) := by
  unfold g_Li_restart at h
  refine a_aload_n i_Li_restart_0 rfl ?_
  refine a_lconst i_Li_restart_1 ?_
  refine a_putl i_Li_restart_2 rfl ?_
  refine a_aload_n i_Li_restart_5 rfl ?_
  refine a_lconst i_Li_restart_6 ?_
  refine a_putl i_Li_restart_7 rfl ?_
  refine a_aload_n i_Li_restart_10 rfl ?_
  refine a_iconst i_Li_restart_11 ?_
  refine a_puti i_Li_restart_12 rfl trivial ?_
  exact am_ret_v ok_Li_restart rfl rfl (am_lf_v h)
theorem t_Li_restart {σ σ' : am_S} {r : Unit} (h : g_Li_restart σ = some (r, σ')) : am_Mt S_c M_Li_restart [.ref 49] σ (fun q τ => q = none ∧ τ = σ') :=
  am_M_of ok_Li_restart (Nat.le_of_ble_eq_true rfl) (t_Li_restart_0 h)
def g_Li_addRow_31 (σ : am_S) : Option (Unit × am_S) :=
  some ((), σ)
set_option maxHeartbeats 4000000 in
theorem t_Li_addRow_31 {σ σ' : am_S} {r : Unit} (h : g_Li_addRow_31 σ = some (r, σ')) : am_A S_c M_Li_addRow (31, [none, none], [], σ) (am_r S_c (fun q τ => q = none ∧ τ = σ')) := by
  unfold g_Li_addRow_31 at h
  exact am_ret_v ok_Li_addRow rfl rfl (am_lf_v h)
def g_Li_addRow (x1 : Int32) (σ : am_S) : Option (Unit × am_S) :=
  am_bd (g_Ro_add (σ.1.2 49 12) (σ.1.2 49 13) (σ.1.1 49 14) x1 σ) fun v10 σ10 =>
  if v10 = 0 then
    g_Li_addRow_31 (am_fi σ10 51 3 1)
  else
    g_Li_addRow_31 σ10
set_option maxHeartbeats 4000000 in
theorem t_Li_addRow_0 {x1 : Int32} {σ σ' : am_S} {r : Unit} (h : g_Li_addRow x1 σ = some (r, σ')) : am_A S_c M_Li_addRow (0, [some (.ref 49), some (.int x1)], [], σ) (am_r S_c (fun q τ => q = none ∧ τ = σ')) := by
  unfold g_Li_addRow at h
  refine a_aload_n i_Li_addRow_0 rfl ?_
  refine a_get (v := .ref 40) i_Li_addRow_1 rfl rfl ?_
  refine a_aload_n i_Li_addRow_4 rfl ?_
  refine a_get (v := .long (σ.1.2 49 12)) i_Li_addRow_5 rfl rfl ?_
  refine a_aload_n i_Li_addRow_8 rfl ?_
  refine a_get (v := .long (σ.1.2 49 13)) i_Li_addRow_9 rfl rfl ?_
  refine a_aload_n i_Li_addRow_12 rfl ?_
  refine a_get (v := .int (σ.1.1 49 14)) i_Li_addRow_13 rfl rfl ?_
  refine a_iload_n i_Li_addRow_16 rfl ?_
  obtain ⟨v10, σ10, e10, h⟩ := am_bd_some h
  refine am_cvd (rest := []) [.long (σ.1.2 49 12), .long (σ.1.2 49 13), .int (σ.1.1 49 14), .int x1] c_Li_addRow_17 ⟨by decide, _, rfl⟩ rfl (Nat.le_of_ble_eq_true rfl) (t_Ro_add e10) ?_
  by_cases c11 : v10 = 0
  · rw [if_pos c11] at h
    refine a_iff i_Li_addRow_20 c11 ?_
    refine a_aload_n i_Li_addRow_23 rfl ?_
    refine a_get (v := .ref 51) i_Li_addRow_24 rfl rfl ?_
    refine a_iconst i_Li_addRow_27 ?_
    refine a_puti i_Li_addRow_28 rfl (Or.inr rfl) ?_
    exact am_wk (t_Li_addRow_31 h) ⟨Or.inl rfl, Or.inl rfl, trivial⟩
  · rw [if_neg c11] at h
    refine a_ift i_Li_addRow_20 c11 ?_
    exact am_wk (t_Li_addRow_31 h) ⟨Or.inl rfl, Or.inl rfl, trivial⟩
theorem t_Li_addRow {x1 : Int32} {σ σ' : am_S} {r : Unit} (h : g_Li_addRow x1 σ = some (r, σ')) : am_Mt S_c M_Li_addRow [.ref 49, .int x1] σ (fun q τ => q = none ∧ τ = σ') :=
  am_M_of ok_Li_addRow (Nat.le_of_ble_eq_true rfl) (t_Li_addRow_0 h)
def g_Li_special (x1 : Int32) (σ : am_S) : Option (Unit × am_S) :=
  am_gd (decide (¬ (σ.1.1 49 9) = 0)) <|
  am_gd (decide (¬ (σ.1.1 49 9) = 0)) <|
  am_bd (g_Li_addRow (0) (am_fi (am_fl σ 49 12 ((σ.1.2 49 12) + ((x1 / (σ.1.1 49 9)).toInt64))) 49 14 ((σ.1.1 49 14) + ((σ.1.1 49 8) + (x1 - x1 / (σ.1.1 49 9) * (σ.1.1 49 9)))))) fun _ σ25 =>
  some ((), σ25)
set_option maxHeartbeats 4000000 in
theorem t_Li_special_0 {x1 : Int32} {σ σ' : am_S} {r : Unit} (h : g_Li_special x1 σ = some (r, σ')) : am_A S_c M_Li_special (0, [some (.ref 49), some (.int x1)], [], σ) (am_r S_c (fun q τ => q = none ∧ τ = σ')) := by
  unfold g_Li_special at h
  refine a_aload_n i_Li_special_0 rfl ?_
  refine a_dup_a i_Li_special_1 ?_
  refine a_get (v := .long (σ.1.2 49 12)) i_Li_special_2 rfl rfl ?_
  refine a_iload_n i_Li_special_5 rfl ?_
  refine a_aload_n i_Li_special_6 rfl ?_
  refine a_get (v := .int (σ.1.1 49 9)) i_Li_special_7 rfl rfl ?_
  obtain ⟨c7, h⟩ := gd_some h
  refine a_idiv i_Li_special_10 (of_decide_eq_true c7) ?_
  refine a_i2l i_Li_special_11 ?_
  refine a_ladd i_Li_special_12 ?_
  refine a_putl i_Li_special_13 rfl ?_
  refine a_aload_n i_Li_special_16 rfl ?_
  refine a_dup_a i_Li_special_17 ?_
  refine a_get (v := .int (σ.1.1 49 14)) i_Li_special_18 rfl rfl ?_
  refine a_aload_n i_Li_special_21 rfl ?_
  refine a_get (v := .int (σ.1.1 49 8)) i_Li_special_22 rfl rfl ?_
  refine a_iload_n i_Li_special_25 rfl ?_
  refine a_aload_n i_Li_special_26 rfl ?_
  refine a_get (v := .int (σ.1.1 49 9)) i_Li_special_27 rfl rfl ?_
  obtain ⟨c19, h⟩ := gd_some h
  refine a_irem i_Li_special_30 (of_decide_eq_true c19) ?_
  refine a_iadd i_Li_special_31 ?_
  refine a_iadd i_Li_special_32 ?_
  refine a_puti i_Li_special_33 rfl trivial ?_
  refine a_aload_n i_Li_special_36 rfl ?_
  refine a_iconst i_Li_special_37 ?_
  obtain ⟨v25, σ25, e25, h⟩ := am_bd_some h
  refine am_cvd (rest := []) [.int 0] c_Li_special_38 ⟨by decide, _, rfl⟩ rfl (Nat.le_of_ble_eq_true rfl) (t_Li_addRow e25) ?_
  exact am_ret_v ok_Li_special rfl rfl (am_lf_v h)
theorem t_Li_special {x1 : Int32} {σ σ' : am_S} {r : Unit} (h : g_Li_special x1 σ = some (r, σ')) : am_Mt S_c M_Li_special [.ref 49, .int x1] σ (fun q τ => q = none ∧ τ = σ') :=
  am_M_of ok_Li_special (Nat.le_of_ble_eq_true rfl) (t_Li_special_0 h)
def g_Li_extended_74 (σ : am_S) : Option (Unit × am_S) :=
  some ((), am_fi σ 51 3 1)
set_option maxHeartbeats 4000000 in
theorem t_Li_extended_74 {σ σ' : am_S} {r : Unit} (h : g_Li_extended_74 σ = some (r, σ')) : am_A S_c M_Li_extended (74, [some (.ref 49), none, none, none, none, none], [], σ) (am_r S_c (fun q τ => q = none ∧ τ = σ')) := by
  unfold g_Li_extended_74 at h
  refine a_aload_n i_Li_extended_74 rfl ?_
  refine a_get (v := .ref 51) i_Li_extended_75 rfl rfl ?_
  refine a_iconst i_Li_extended_78 ?_
  refine a_puti i_Li_extended_79 rfl (Or.inr rfl) ?_
  exact am_ret_v ok_Li_extended rfl rfl (am_lf_v h)
def g_Li_extended_120 (x1 : Int64) (x3 : Int32) (σ : am_S) : Option (Unit × am_S) :=
  some ((), am_fi σ 51 1 (x3 + x1.toInt32))
set_option maxHeartbeats 4000000 in
theorem t_Li_extended_120 {x1 : Int64} {x3 : Int32} {σ σ' : am_S} {r : Unit} (h : g_Li_extended_120 x1 x3 σ = some (r, σ')) : am_A S_c M_Li_extended (120, [some (.ref 49), some (.long x1), none, some (.int x3), none, none], [], σ) (am_r S_c (fun q τ => q = none ∧ τ = σ')) := by
  unfold g_Li_extended_120 at h
  refine a_aload_n i_Li_extended_120 rfl ?_
  refine a_get (v := .ref 51) i_Li_extended_121 rfl rfl ?_
  refine a_iload_n i_Li_extended_124 rfl ?_
  refine a_lload_n i_Li_extended_125 rfl ?_
  refine a_l2i i_Li_extended_126 ?_
  refine a_iadd i_Li_extended_127 ?_
  refine a_puti i_Li_extended_128 rfl trivial ?_
  exact am_ret_v ok_Li_extended rfl rfl (am_lf_v h)
def g_Li_extended_39 (x1 : Int64) (x3 : Int32) (x4 : Int32) (y0 : Int32) (σ : am_S) : Option (Unit × am_S) :=
  if (σ.1.1 51 3) = 0 then
    if (lg_cmp x1 y0.toInt64) < 0 then
      g_Li_extended_74 σ
    else
      if 0 < (lg_cmp x1 (((σ.1.1 51 2) - x3).toInt64)) then
        g_Li_extended_74 σ
      else
        if x4 = 1 then
          am_bd (g_Li_addRow (1) σ) fun _ σ25 =>
          am_bd (g_Li_restart σ25) fun _ σ27 =>
          g_Li_extended_120 x1 x3 σ27
        else
          if x4 = 2 then
            am_bd (g_Cu_number 51 (8) σ) fun v30 σ30 =>
            g_Li_extended_120 x1 x3 (am_fl σ30 49 12 v30)
          else
            g_Li_extended_120 x1 x3 σ
  else
    g_Li_extended_74 σ
set_option maxHeartbeats 4000000 in
theorem t_Li_extended_39 {x1 : Int64} {x3 : Int32} {x4 : Int32} {y0 : Int32} {σ σ' : am_S} {r : Unit} (h : g_Li_extended_39 x1 x3 x4 y0 σ = some (r, σ')) : am_A S_c M_Li_extended (39, [some (.ref 49), some (.long x1), none, some (.int x3), some (.int x4), none], [.int y0], σ) (am_r S_c (fun q τ => q = none ∧ τ = σ')) := by
  unfold g_Li_extended_39 at h
  refine a_istore i_Li_extended_39 rfl ?_
  refine a_aload_n i_Li_extended_41 rfl ?_
  refine a_get (v := .ref 51) i_Li_extended_42 rfl rfl ?_
  refine a_get (v := .int (σ.1.1 51 3)) i_Li_extended_45 rfl rfl ?_
  by_cases c5 : (σ.1.1 51 3) = 0
  · rw [if_pos c5] at h
    refine a_iff i_Li_extended_48 c5 ?_
    refine a_lload_n i_Li_extended_51 rfl ?_
    refine a_iload i_Li_extended_52 rfl ?_
    refine a_i2l i_Li_extended_54 ?_
    refine a_lcmp i_Li_extended_55 ?_
    by_cases c10 : (lg_cmp x1 y0.toInt64) < 0
    · rw [if_pos c10] at h
      refine a_ift i_Li_extended_56 c10 ?_
      exact am_wk (t_Li_extended_74 h) ⟨Or.inr rfl, Or.inl rfl, Or.inl rfl, Or.inl rfl, Or.inl rfl, Or.inl rfl, trivial⟩
    · rw [if_neg c10] at h
      refine a_iff i_Li_extended_56 c10 ?_
      refine a_lload_n i_Li_extended_59 rfl ?_
      refine a_aload_n i_Li_extended_60 rfl ?_
      refine a_get (v := .ref 51) i_Li_extended_61 rfl rfl ?_
      refine a_get (v := .int (σ.1.1 51 2)) i_Li_extended_64 rfl rfl ?_
      refine a_iload_n i_Li_extended_67 rfl ?_
      refine a_isub i_Li_extended_68 ?_
      refine a_i2l i_Li_extended_69 ?_
      refine a_lcmp i_Li_extended_70 ?_
      by_cases c19 : 0 < (lg_cmp x1 (((σ.1.1 51 2) - x3).toInt64))
      · rw [if_pos c19] at h
        refine a_iff i_Li_extended_71 (Int32.not_le.mpr c19) ?_
        exact am_wk (t_Li_extended_74 h) ⟨Or.inr rfl, Or.inl rfl, Or.inl rfl, Or.inl rfl, Or.inl rfl, Or.inl rfl, trivial⟩
      · rw [if_neg c19] at h
        refine a_ift i_Li_extended_71 (Int32.not_lt.mp c19) ?_
        refine a_iload i_Li_extended_83 rfl ?_
        refine a_iconst i_Li_extended_85 ?_
        by_cases c22 : x4 = 1
        · rw [if_pos c22] at h
          refine a_icf i_Li_extended_86 c22 ?_
          refine a_aload_n i_Li_extended_89 rfl ?_
          refine a_iconst i_Li_extended_90 ?_
          obtain ⟨v25, σ25, e25, h⟩ := am_bd_some h
          refine am_cvd (rest := []) [.int 1] c_Li_extended_91 ⟨by decide, _, rfl⟩ rfl (Nat.le_of_ble_eq_true rfl) (t_Li_addRow e25) ?_
          refine a_aload_n i_Li_extended_94 rfl ?_
          obtain ⟨v27, σ27, e27, h⟩ := am_bd_some h
          refine am_cvd (rest := []) [] c_Li_extended_95 ⟨by decide, _, rfl⟩ rfl (Nat.le_of_ble_eq_true rfl) (t_Li_restart e27) ?_
          refine a_goto i_Li_extended_98 ?_
          exact am_wk (t_Li_extended_120 h) ⟨Or.inr rfl, Or.inr rfl, Or.inl rfl, Or.inr rfl, Or.inl rfl, Or.inl rfl, trivial⟩
        · rw [if_neg c22] at h
          refine a_ict i_Li_extended_86 c22 ?_
          refine a_iload i_Li_extended_101 rfl ?_
          refine a_iconst i_Li_extended_103 ?_
          by_cases c25 : x4 = 2
          · rw [if_pos c25] at h
            refine a_icf i_Li_extended_104 c25 ?_
            refine a_aload_n i_Li_extended_107 rfl ?_
            refine a_aload_n i_Li_extended_108 rfl ?_
            refine a_get (v := .ref 51) i_Li_extended_109 rfl rfl ?_
            refine a_bipush i_Li_extended_112 ?_
            obtain ⟨v30, σ30, e30, h⟩ := am_bd_some h
            refine am_cvd (rest := [.ref 49]) [.int 8] c_Li_extended_114 ⟨by decide, _, rfl⟩ rfl (Nat.le_of_ble_eq_true rfl) (t_Cu_number cu_51 e30) ?_
            refine a_putl i_Li_extended_117 rfl ?_
            exact am_wk (t_Li_extended_120 h) ⟨Or.inr rfl, Or.inr rfl, Or.inl rfl, Or.inr rfl, Or.inl rfl, Or.inl rfl, trivial⟩
          · rw [if_neg c25] at h
            refine a_ict i_Li_extended_104 c25 ?_
            exact am_wk (t_Li_extended_120 h) ⟨Or.inr rfl, Or.inr rfl, Or.inl rfl, Or.inr rfl, Or.inl rfl, Or.inl rfl, trivial⟩
  · rw [if_neg c5] at h
    refine a_ift i_Li_extended_48 c5 ?_
    exact am_wk (t_Li_extended_74 h) ⟨Or.inr rfl, Or.inl rfl, Or.inl rfl, Or.inl rfl, Or.inl rfl, Or.inl rfl, trivial⟩
def g_Li_extended (σ : am_S) : Option (Unit × am_S) :=
  am_bd (g_Cu_uleb 51 σ) fun v3 σ3 =>
  am_bd (g_Cu_number 51 (1) σ3) fun v12 σ12 =>
  if v12.toInt32 = 2 then
    g_Li_extended_39 v3 (σ3.1.1 51 1) v12.toInt32 (9) σ12
  else
    g_Li_extended_39 v3 (σ3.1.1 51 1) v12.toInt32 (1) σ12
set_option maxHeartbeats 4000000 in
theorem t_Li_extended_0 {σ σ' : am_S} {r : Unit} (h : g_Li_extended σ = some (r, σ')) : am_A S_c M_Li_extended (0, [some (.ref 49), none, none, none, none, none], [], σ) (am_r S_c (fun q τ => q = none ∧ τ = σ')) := by
  unfold g_Li_extended at h
  refine a_aload_n i_Li_extended_0 rfl ?_
  refine a_get (v := .ref 51) i_Li_extended_1 rfl rfl ?_
  obtain ⟨v3, σ3, e3, h⟩ := am_bd_some h
  refine am_cvd (rest := []) [] c_Li_extended_4 ⟨by decide, _, rfl⟩ rfl (Nat.le_of_ble_eq_true rfl) (t_Cu_uleb cu_51 e3) ?_
  refine a_lstore_n i_Li_extended_7 rfl ?_
  refine a_aload_n i_Li_extended_8 rfl ?_
  refine a_get (v := .ref 51) i_Li_extended_9 rfl rfl ?_
  refine a_get (v := .int (σ3.1.1 51 1)) i_Li_extended_12 rfl rfl ?_
  refine a_istore_n i_Li_extended_15 rfl ?_
  refine a_aload_n i_Li_extended_16 rfl ?_
  refine a_get (v := .ref 51) i_Li_extended_17 rfl rfl ?_
  refine a_iconst i_Li_extended_20 ?_
  obtain ⟨v12, σ12, e12, h⟩ := am_bd_some h
  refine am_cvd (rest := []) [.int 1] c_Li_extended_21 ⟨by decide, _, rfl⟩ rfl (Nat.le_of_ble_eq_true rfl) (t_Cu_number cu_51 e12) ?_
  refine a_l2i i_Li_extended_24 ?_
  refine a_istore i_Li_extended_25 rfl ?_
  refine a_iload i_Li_extended_27 rfl ?_
  refine a_iconst i_Li_extended_29 ?_
  by_cases c17 : v12.toInt32 = 2
  · rw [if_pos c17] at h
    refine a_icf i_Li_extended_30 c17 ?_
    refine a_bipush i_Li_extended_33 ?_
    refine a_goto i_Li_extended_35 ?_
    exact t_Li_extended_39 h
  · rw [if_neg c17] at h
    refine a_ict i_Li_extended_30 c17 ?_
    refine a_iconst i_Li_extended_38 ?_
    exact t_Li_extended_39 h
theorem t_Li_extended {σ σ' : am_S} {r : Unit} (h : g_Li_extended σ = some (r, σ')) : am_Mt S_c M_Li_extended [.ref 49] σ (fun q τ => q = none ∧ τ = σ') :=
  am_M_of ok_Li_extended (Nat.le_of_ble_eq_true rfl) (t_Li_extended_0 h)
def g_Li_passOperands_49 (σ : am_S) : Option (Unit × am_S) :=
  some ((), σ)
set_option maxHeartbeats 4000000 in
theorem t_Li_passOperands_49 {σ σ' : am_S} {r : Unit} (h : g_Li_passOperands_49 σ = some (r, σ')) : am_A S_c M_Li_passOperands (49, [none, none, none, none], [], σ) (am_r S_c (fun q τ => q = none ∧ τ = σ')) := by
  unfold g_Li_passOperands_49 at h
  exact am_ret_v ok_Li_passOperands rfl rfl (am_lf_v h)
def g_Li_passOperands_20 : Nat → Int32 → Int32 → am_S → Option (Unit × am_S)
  | 0, _, _, _ => none
  | n + 1, x2, x3, σ =>
  if x3 < x2 then
    if (σ.1.1 51 3) = 0 then
      am_bd (g_Cu_uleb 51 σ) fun v10 σ10 =>
      g_Li_passOperands_20 n x2 (x3 + 1) σ10
    else
      g_Li_passOperands_49 σ
  else
    g_Li_passOperands_49 σ
set_option maxHeartbeats 4000000 in
theorem t_Li_passOperands_20 : ∀ (n : Nat) {x2 : Int32} {x3 : Int32} {σ σ' : am_S} {r : Unit} (h : g_Li_passOperands_20 n x2 x3 σ = some (r, σ')), am_A S_c M_Li_passOperands (20, [some (.ref 49), none, some (.int x2), some (.int x3)], [], σ) (am_r S_c (fun q τ => q = none ∧ τ = σ')) := by
  intro n
  induction n with
  | zero =>
    intro x2 x3 σ σ' r h
    cases h
  | succ n ih =>
  intro x2 x3 σ σ' r h
  unfold g_Li_passOperands_20 at h
  refine a_iload_n i_Li_passOperands_20 rfl ?_
  refine a_iload_n i_Li_passOperands_21 rfl ?_
  by_cases c3 : x3 < x2
  · rw [if_pos c3] at h
    refine a_icf i_Li_passOperands_22 (Int32.not_le.mpr c3) ?_
    refine a_aload_n i_Li_passOperands_25 rfl ?_
    refine a_get (v := .ref 51) i_Li_passOperands_26 rfl rfl ?_
    refine a_get (v := .int (σ.1.1 51 3)) i_Li_passOperands_29 rfl rfl ?_
    by_cases c7 : (σ.1.1 51 3) = 0
    · rw [if_pos c7] at h
      refine a_iff i_Li_passOperands_32 c7 ?_
      refine a_aload_n i_Li_passOperands_35 rfl ?_
      refine a_get (v := .ref 51) i_Li_passOperands_36 rfl rfl ?_
      obtain ⟨v10, σ10, e10, h⟩ := am_bd_some h
      refine am_cvd (rest := []) [] c_Li_passOperands_39 ⟨by decide, _, rfl⟩ rfl (Nat.le_of_ble_eq_true rfl) (t_Cu_uleb cu_51 e10) ?_
      refine a_pop2_l i_Li_passOperands_42 ?_
      refine a_iinc i_Li_passOperands_43 rfl rfl ?_
      refine a_goto i_Li_passOperands_46 ?_
      exact ih h
    · rw [if_neg c7] at h
      refine a_ift i_Li_passOperands_32 c7 ?_
      exact am_wk (t_Li_passOperands_49 h) ⟨Or.inl rfl, Or.inl rfl, Or.inl rfl, Or.inl rfl, trivial⟩
  · rw [if_neg c3] at h
    refine a_ict i_Li_passOperands_22 (Int32.not_lt.mp c3) ?_
    exact am_wk (t_Li_passOperands_49 h) ⟨Or.inl rfl, Or.inl rfl, Or.inl rfl, Or.inl rfl, trivial⟩
def g_Li_passOperands (x1 : Int32) (σ : am_S) : Option (Unit × am_S) :=
  am_gd (inb (((σ.1.1 49 11) + x1) - 1) 3000) <|
  g_Li_passOperands_20 4000 ((σ.2.1 1 (((σ.1.1 49 11) + x1) - 1).toNatClampNeg) &&& 255) (0) σ
set_option maxHeartbeats 4000000 in
theorem t_Li_passOperands_0 {x1 : Int32} {σ σ' : am_S} {r : Unit} (h : g_Li_passOperands x1 σ = some (r, σ')) : am_A S_c M_Li_passOperands (0, [some (.ref 49), some (.int x1), none, none], [], σ) (am_r S_c (fun q τ => q = none ∧ τ = σ')) := by
  unfold g_Li_passOperands at h
  refine a_aload_n i_Li_passOperands_0 rfl ?_
  refine a_get (v := .ref 1) i_Li_passOperands_1 rfl rfl ?_
  refine a_aload_n i_Li_passOperands_4 rfl ?_
  refine a_get (v := .int (σ.1.1 49 11)) i_Li_passOperands_5 rfl rfl ?_
  refine a_iload_n i_Li_passOperands_8 rfl ?_
  refine a_iadd i_Li_passOperands_9 ?_
  refine a_iconst i_Li_passOperands_10 ?_
  refine a_isub i_Li_passOperands_11 ?_
  obtain ⟨c9, h⟩ := gd_some h
  refine a_bal (n := 3000) i_Li_passOperands_12 rfl rfl (inb_in c9) ?_
  refine a_sipush i_Li_passOperands_13 ?_
  refine a_iand i_Li_passOperands_16 ?_
  refine a_istore_n i_Li_passOperands_17 rfl ?_
  refine a_iconst i_Li_passOperands_18 ?_
  refine a_istore_n i_Li_passOperands_19 rfl ?_
  exact am_wk (t_Li_passOperands_20 4000 h) ⟨Or.inr rfl, Or.inl rfl, Or.inr rfl, Or.inr rfl, trivial⟩
theorem t_Li_passOperands {x1 : Int32} {σ σ' : am_S} {r : Unit} (h : g_Li_passOperands x1 σ = some (r, σ')) : am_Mt S_c M_Li_passOperands [.ref 49, .int x1] σ (fun q τ => q = none ∧ τ = σ') :=
  am_M_of ok_Li_passOperands (Nat.le_of_ble_eq_true rfl) (t_Li_passOperands_0 h)
def g_Li_standard_190 (σ : am_S) : Option (Unit × am_S) :=
  some ((), σ)
set_option maxHeartbeats 4000000 in
theorem t_Li_standard_190 {σ σ' : am_S} {r : Unit} (h : g_Li_standard_190 σ = some (r, σ')) : am_A S_c M_Li_standard (190, [none, none], [], σ) (am_r S_c (fun q τ => q = none ∧ τ = σ')) := by
  unfold g_Li_standard_190 at h
  exact am_ret_v ok_Li_standard rfl rfl (am_lf_v h)
def g_Li_standard_125 (σ : am_S) : Option (Unit × am_S) :=
  am_bd (g_Cu_uleb 51 σ) fun v3 σ3 =>
  g_Li_standard_190 σ3
set_option maxHeartbeats 4000000 in
theorem t_Li_standard_125 {σ σ' : am_S} {r : Unit} (h : g_Li_standard_125 σ = some (r, σ')) : am_A S_c M_Li_standard (125, [some (.ref 49), none], [], σ) (am_r S_c (fun q τ => q = none ∧ τ = σ')) := by
  unfold g_Li_standard_125 at h
  refine a_aload_n i_Li_standard_125 rfl ?_
  refine a_get (v := .ref 51) i_Li_standard_126 rfl rfl ?_
  obtain ⟨v3, σ3, e3, h⟩ := am_bd_some h
  refine am_cvd (rest := []) [] c_Li_standard_129 ⟨by decide, _, rfl⟩ rfl (Nat.le_of_ble_eq_true rfl) (t_Cu_uleb cu_51 e3) ?_
  refine a_pop2_l i_Li_standard_132 ?_
  refine a_goto i_Li_standard_133 ?_
  exact am_wk (t_Li_standard_190 h) ⟨Or.inl rfl, Or.inl rfl, trivial⟩
def g_Li_standard_136 (σ : am_S) : Option (Unit × am_S) :=
  g_Li_standard_190 σ
set_option maxHeartbeats 4000000 in
theorem t_Li_standard_136 {σ σ' : am_S} {r : Unit} (h : g_Li_standard_136 σ = some (r, σ')) : am_A S_c M_Li_standard (136, [none, none], [], σ) (am_r S_c (fun q τ => q = none ∧ τ = σ')) := by
  unfold g_Li_standard_136 at h
  refine a_goto i_Li_standard_136 ?_
  exact t_Li_standard_190 h
def g_Li_standard (x1 : Int32) (σ : am_S) : Option (Unit × am_S) :=
  if x1 = 1 then
    am_bd (g_Li_addRow (0) σ) fun _ σ5 =>
    g_Li_standard_190 σ5
  else
  if x1 = 2 then
    am_bd (g_Cu_uleb 51 σ) fun v8 σ8 =>
    g_Li_standard_190 (am_fl σ8 49 12 ((σ.1.2 49 12) + v8))
  else
  if x1 = 3 then
    am_bd (g_Cu_sleb 51 σ) fun v8 σ8 =>
    g_Li_standard_190 (am_fi σ8 49 14 ((σ.1.1 49 14) + v8.toInt32))
  else
  if x1 = 4 then
    am_bd (g_Cu_uleb 51 σ) fun v6 σ6 =>
    g_Li_standard_190 (am_fl σ6 49 13 v6)
  else
  if x1 = 5 then
    g_Li_standard_125 σ
  else
  if x1 = 6 then
    g_Li_standard_136 σ
  else
  if x1 = 7 then
    g_Li_standard_136 σ
  else
  if x1 = 8 then
    am_gd (decide (¬ (σ.1.1 49 9) = 0)) <|
    g_Li_standard_190 (am_fl σ 49 12 ((σ.1.2 49 12) + (((255 - (σ.1.1 49 10)) / (σ.1.1 49 9)).toInt64)))
  else
  if x1 = 9 then
    am_bd (g_Cu_number 51 (2) σ) fun v9 σ9 =>
    g_Li_standard_190 (am_fl σ9 49 12 ((σ.1.2 49 12) + v9))
  else
  if x1 = 10 then
    g_Li_standard_136 σ
  else
  if x1 = 11 then
    g_Li_standard_136 σ
  else
  if x1 = 12 then
    g_Li_standard_125 σ
  else
  am_bd (g_Li_passOperands x1 σ) fun _ σ5 =>
  g_Li_standard_190 σ5
set_option maxHeartbeats 4000000 in
theorem t_Li_standard_0 {x1 : Int32} {σ σ' : am_S} {r : Unit} (h : g_Li_standard x1 σ = some (r, σ')) : am_A S_c M_Li_standard (0, [some (.ref 49), some (.int x1)], [], σ) (am_r S_c (fun q τ => q = none ∧ τ = σ')) := by
  unfold g_Li_standard at h
  refine a_iload_n i_Li_standard_0 rfl ?_
  by_cases d2_0 : x1 = 1
  · rw [if_pos d2_0] at h
    refine a_tab 0 i_Li_standard_1 rfl (by rw [d2_0]; decide) (by decide) rfl ?_
    refine a_aload_n i_Li_standard_64 rfl ?_
    refine a_iconst i_Li_standard_65 ?_
    obtain ⟨v5, σ5, e5, h⟩ := am_bd_some h
    refine am_cvd (rest := []) [.int 0] c_Li_standard_66 ⟨by decide, _, rfl⟩ rfl (Nat.le_of_ble_eq_true rfl) (t_Li_addRow e5) ?_
    refine a_goto i_Li_standard_69 ?_
    exact am_wk (t_Li_standard_190 h) ⟨Or.inl rfl, Or.inl rfl, trivial⟩
  rw [if_neg d2_0] at h
  by_cases d2_1 : x1 = 2
  · rw [if_pos d2_1] at h
    refine a_tab 1 i_Li_standard_1 rfl (by rw [d2_1]; decide) (by decide) rfl ?_
    refine a_aload_n i_Li_standard_72 rfl ?_
    refine a_dup_a i_Li_standard_73 ?_
    refine a_get (v := .long (σ.1.2 49 12)) i_Li_standard_74 rfl rfl ?_
    refine a_aload_n i_Li_standard_77 rfl ?_
    refine a_get (v := .ref 51) i_Li_standard_78 rfl rfl ?_
    obtain ⟨v8, σ8, e8, h⟩ := am_bd_some h
    refine am_cvd (rest := [.long (σ.1.2 49 12), .ref 49]) [] c_Li_standard_81 ⟨by decide, _, rfl⟩ rfl (Nat.le_of_ble_eq_true rfl) (t_Cu_uleb cu_51 e8) ?_
    refine a_ladd i_Li_standard_84 ?_
    refine a_putl i_Li_standard_85 rfl ?_
    refine a_goto i_Li_standard_88 ?_
    exact am_wk (t_Li_standard_190 h) ⟨Or.inl rfl, Or.inl rfl, trivial⟩
  rw [if_neg d2_1] at h
  by_cases d2_2 : x1 = 3
  · rw [if_pos d2_2] at h
    refine a_tab 2 i_Li_standard_1 rfl (by rw [d2_2]; decide) (by decide) rfl ?_
    refine a_aload_n i_Li_standard_91 rfl ?_
    refine a_dup_a i_Li_standard_92 ?_
    refine a_get (v := .int (σ.1.1 49 14)) i_Li_standard_93 rfl rfl ?_
    refine a_aload_n i_Li_standard_96 rfl ?_
    refine a_get (v := .ref 51) i_Li_standard_97 rfl rfl ?_
    obtain ⟨v8, σ8, e8, h⟩ := am_bd_some h
    refine am_cvd (rest := [.int (σ.1.1 49 14), .ref 49]) [] c_Li_standard_100 ⟨by decide, _, rfl⟩ rfl (Nat.le_of_ble_eq_true rfl) (t_Cu_sleb cu_51 e8) ?_
    refine a_l2i i_Li_standard_103 ?_
    refine a_iadd i_Li_standard_104 ?_
    refine a_puti i_Li_standard_105 rfl trivial ?_
    refine a_goto i_Li_standard_108 ?_
    exact am_wk (t_Li_standard_190 h) ⟨Or.inl rfl, Or.inl rfl, trivial⟩
  rw [if_neg d2_2] at h
  by_cases d2_3 : x1 = 4
  · rw [if_pos d2_3] at h
    refine a_tab 3 i_Li_standard_1 rfl (by rw [d2_3]; decide) (by decide) rfl ?_
    refine a_aload_n i_Li_standard_111 rfl ?_
    refine a_aload_n i_Li_standard_112 rfl ?_
    refine a_get (v := .ref 51) i_Li_standard_113 rfl rfl ?_
    obtain ⟨v6, σ6, e6, h⟩ := am_bd_some h
    refine am_cvd (rest := [.ref 49]) [] c_Li_standard_116 ⟨by decide, _, rfl⟩ rfl (Nat.le_of_ble_eq_true rfl) (t_Cu_uleb cu_51 e6) ?_
    refine a_putl i_Li_standard_119 rfl ?_
    refine a_goto i_Li_standard_122 ?_
    exact am_wk (t_Li_standard_190 h) ⟨Or.inl rfl, Or.inl rfl, trivial⟩
  rw [if_neg d2_3] at h
  by_cases d2_4 : x1 = 5
  · rw [if_pos d2_4] at h
    refine a_tab 4 i_Li_standard_1 rfl (by rw [d2_4]; decide) (by decide) rfl ?_
    exact am_wk (t_Li_standard_125 h) ⟨Or.inr rfl, Or.inl rfl, trivial⟩
  rw [if_neg d2_4] at h
  by_cases d2_5 : x1 = 6
  · rw [if_pos d2_5] at h
    refine a_tab 5 i_Li_standard_1 rfl (by rw [d2_5]; decide) (by decide) rfl ?_
    exact am_wk (t_Li_standard_136 h) ⟨Or.inl rfl, Or.inl rfl, trivial⟩
  rw [if_neg d2_5] at h
  by_cases d2_6 : x1 = 7
  · rw [if_pos d2_6] at h
    refine a_tab 6 i_Li_standard_1 rfl (by rw [d2_6]; decide) (by decide) rfl ?_
    exact am_wk (t_Li_standard_136 h) ⟨Or.inl rfl, Or.inl rfl, trivial⟩
  rw [if_neg d2_6] at h
  by_cases d2_7 : x1 = 8
  · rw [if_pos d2_7] at h
    refine a_tab 7 i_Li_standard_1 rfl (by rw [d2_7]; decide) (by decide) rfl ?_
    refine a_aload_n i_Li_standard_139 rfl ?_
    refine a_dup_a i_Li_standard_140 ?_
    refine a_get (v := .long (σ.1.2 49 12)) i_Li_standard_141 rfl rfl ?_
    refine a_sipush i_Li_standard_144 ?_
    refine a_aload_n i_Li_standard_147 rfl ?_
    refine a_get (v := .int (σ.1.1 49 10)) i_Li_standard_148 rfl rfl ?_
    refine a_isub i_Li_standard_151 ?_
    refine a_aload_n i_Li_standard_152 rfl ?_
    refine a_get (v := .int (σ.1.1 49 9)) i_Li_standard_153 rfl rfl ?_
    obtain ⟨c12, h⟩ := gd_some h
    refine a_idiv i_Li_standard_156 (of_decide_eq_true c12) ?_
    refine a_i2l i_Li_standard_157 ?_
    refine a_ladd i_Li_standard_158 ?_
    refine a_putl i_Li_standard_159 rfl ?_
    refine a_goto i_Li_standard_162 ?_
    exact am_wk (t_Li_standard_190 h) ⟨Or.inl rfl, Or.inl rfl, trivial⟩
  rw [if_neg d2_7] at h
  by_cases d2_8 : x1 = 9
  · rw [if_pos d2_8] at h
    refine a_tab 8 i_Li_standard_1 rfl (by rw [d2_8]; decide) (by decide) rfl ?_
    refine a_aload_n i_Li_standard_165 rfl ?_
    refine a_dup_a i_Li_standard_166 ?_
    refine a_get (v := .long (σ.1.2 49 12)) i_Li_standard_167 rfl rfl ?_
    refine a_aload_n i_Li_standard_170 rfl ?_
    refine a_get (v := .ref 51) i_Li_standard_171 rfl rfl ?_
    refine a_iconst i_Li_standard_174 ?_
    obtain ⟨v9, σ9, e9, h⟩ := am_bd_some h
    refine am_cvd (rest := [.long (σ.1.2 49 12), .ref 49]) [.int 2] c_Li_standard_175 ⟨by decide, _, rfl⟩ rfl (Nat.le_of_ble_eq_true rfl) (t_Cu_number cu_51 e9) ?_
    refine a_ladd i_Li_standard_178 ?_
    refine a_putl i_Li_standard_179 rfl ?_
    refine a_goto i_Li_standard_182 ?_
    exact am_wk (t_Li_standard_190 h) ⟨Or.inl rfl, Or.inl rfl, trivial⟩
  rw [if_neg d2_8] at h
  by_cases d2_9 : x1 = 10
  · rw [if_pos d2_9] at h
    refine a_tab 9 i_Li_standard_1 rfl (by rw [d2_9]; decide) (by decide) rfl ?_
    exact am_wk (t_Li_standard_136 h) ⟨Or.inl rfl, Or.inl rfl, trivial⟩
  rw [if_neg d2_9] at h
  by_cases d2_10 : x1 = 11
  · rw [if_pos d2_10] at h
    refine a_tab 10 i_Li_standard_1 rfl (by rw [d2_10]; decide) (by decide) rfl ?_
    exact am_wk (t_Li_standard_136 h) ⟨Or.inl rfl, Or.inl rfl, trivial⟩
  rw [if_neg d2_10] at h
  by_cases d2_11 : x1 = 12
  · rw [if_pos d2_11] at h
    refine a_tab 11 i_Li_standard_1 rfl (by rw [d2_11]; decide) (by decide) rfl ?_
    exact am_wk (t_Li_standard_125 h) ⟨Or.inr rfl, Or.inl rfl, trivial⟩
  rw [if_neg d2_11] at h
  refine a_tabn [1, 2, 3, 4, 5, 6, 7, 8, 9, 10, 11, 12] i_Li_standard_1 rfl rfl (by decide) (List.forall_mem_cons.mpr ⟨lv_neT d2_0 (a := 1) (by decide), List.forall_mem_cons.mpr ⟨lv_neT d2_1 (a := 2) (by decide), List.forall_mem_cons.mpr ⟨lv_neT d2_2 (a := 3) (by decide), List.forall_mem_cons.mpr ⟨lv_neT d2_3 (a := 4) (by decide), List.forall_mem_cons.mpr ⟨lv_neT d2_4 (a := 5) (by decide), List.forall_mem_cons.mpr ⟨lv_neT d2_5 (a := 6) (by decide), List.forall_mem_cons.mpr ⟨lv_neT d2_6 (a := 7) (by decide), List.forall_mem_cons.mpr ⟨lv_neT d2_7 (a := 8) (by decide), List.forall_mem_cons.mpr ⟨lv_neT d2_8 (a := 9) (by decide), List.forall_mem_cons.mpr ⟨lv_neT d2_9 (a := 10) (by decide), List.forall_mem_cons.mpr ⟨lv_neT d2_10 (a := 11) (by decide), List.forall_mem_cons.mpr ⟨lv_neT d2_11 (a := 12) (by decide), fun _ h9 => absurd h9 List.not_mem_nil⟩⟩⟩⟩⟩⟩⟩⟩⟩⟩⟩⟩) ?_
  refine a_aload_n i_Li_standard_185 rfl ?_
  refine a_iload_n i_Li_standard_186 rfl ?_
  obtain ⟨v5, σ5, e5, h⟩ := am_bd_some h
  refine am_cvd (rest := []) [.int x1] c_Li_standard_187 ⟨by decide, _, rfl⟩ rfl (Nat.le_of_ble_eq_true rfl) (t_Li_passOperands e5) ?_
  exact am_wk (t_Li_standard_190 h) ⟨Or.inl rfl, Or.inl rfl, trivial⟩
theorem t_Li_standard {x1 : Int32} {σ σ' : am_S} {r : Unit} (h : g_Li_standard x1 σ = some (r, σ')) : am_Mt S_c M_Li_standard [.ref 49, .int x1] σ (fun q τ => q = none ∧ τ = σ') :=
  am_M_of ok_Li_standard (Nat.le_of_ble_eq_true rfl) (t_Li_standard_0 h)
