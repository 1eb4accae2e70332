def g_Fr_addChain_72 : Nat → Int32 → am_S → Option (Unit × am_S)
  | 0, _, _ => none
  | n + 1, x6, σ =>
  if x6 < 0 then
    some ((), σ)
  else
    am_gd (inb x6 16) <|
    am_gd (inb (x6 + 1) 16) <|
    am_bd (g_Fr_addAround (σ.2.1 59 x6.toNatClampNeg) (σ.2.1 59 (x6 + 1).toNatClampNeg) σ) fun _ σ14 =>
    g_Fr_addChain_72 n (x6 + (-1)) σ14
set_option maxHeartbeats 4000000 in
theorem t_Fr_addChain_72 : ∀ (n : Nat) {x6 : Int32} {σ σ' : am_S} {r : Unit} (h : g_Fr_addChain_72 n x6 σ = some (r, σ')), am_A S_c M_Fr_addChain (72, [some (.ref 58), none, none, none, none, none, some (.int x6)], [], σ) (am_r S_c (fun q τ => q = none ∧ τ = σ')) := by
  intro n
  induction n with
  | zero =>
    intro x6 σ σ' r h
    cases h
  | succ n ih =>
  intro x6 σ σ' r h
  unfold g_Fr_addChain_72 at h
  refine a_iload i_Fr_addChain_72 rfl ?_
  by_cases c2 : x6 < 0
  · rw [if_pos c2] at h
    refine a_ift i_Fr_addChain_74 c2 ?_
    exact am_ret_v ok_Fr_addChain rfl rfl (am_lf_v h)
  · rw [if_neg c2] at h
    refine a_iff i_Fr_addChain_74 c2 ?_
    refine a_aload_n i_Fr_addChain_77 rfl ?_
    refine a_aload_n i_Fr_addChain_78 rfl ?_
    refine a_get (v := .ref 59) i_Fr_addChain_79 rfl rfl ?_
    refine a_iload i_Fr_addChain_82 rfl ?_
    obtain ⟨c7, h⟩ := gd_some h
    refine a_ial (n := 16) i_Fr_addChain_84 (by decide) rfl rfl (inb_in c7) ?_
    refine a_aload_n i_Fr_addChain_85 rfl ?_
    refine a_get (v := .ref 59) i_Fr_addChain_86 rfl rfl ?_
    refine a_iload i_Fr_addChain_89 rfl ?_
    refine a_iconst i_Fr_addChain_91 ?_
    refine a_iadd i_Fr_addChain_92 ?_
    obtain ⟨c13, h⟩ := gd_some h
    refine a_ial (n := 16) i_Fr_addChain_93 (by decide) rfl rfl (inb_in c13) ?_
    obtain ⟨v14, σ14, e14, h⟩ := am_bd_some h
    refine am_cvd (rest := []) [.int (σ.2.1 59 x6.toNatClampNeg), .int (σ.2.1 59 (x6 + 1).toNatClampNeg)] c_Fr_addChain_94 ⟨by decide, _, rfl⟩ rfl (Nat.le_of_ble_eq_true rfl) (t_Fr_addAround e14) ?_
    refine a_iinc i_Fr_addChain_97 rfl rfl ?_
    refine a_goto i_Fr_addChain_100 ?_
    exact ih h
def g_Fr_addChain_52 (x2 : Int64) (x4 : Int32) (σ : am_S) : Option (Unit × am_S) :=
  am_gd (inb (x4 - 1) 16) <|
  am_bd (g_Fr_addInnermost (σ.2.1 59 (x4 - 1).toNatClampNeg) x2 σ) fun _ σ9 =>
  g_Fr_addChain_72 4000 (x4 - 2) σ9
set_option maxHeartbeats 4000000 in
theorem t_Fr_addChain_52 {x2 : Int64} {x4 : Int32} {σ σ' : am_S} {r : Unit} (h : g_Fr_addChain_52 x2 x4 σ = some (r, σ')) : am_A S_c M_Fr_addChain (52, [some (.ref 58), none, some (.long x2), none, some (.int x4), none, none], [], σ) (am_r S_c (fun q τ => q = none ∧ τ = σ')) := by
  unfold g_Fr_addChain_52 at h
  refine a_aload_n i_Fr_addChain_52 rfl ?_
  refine a_aload_n i_Fr_addChain_53 rfl ?_
  refine a_get (v := .ref 59) i_Fr_addChain_54 rfl rfl ?_
  refine a_iload i_Fr_addChain_57 rfl ?_
  refine a_iconst i_Fr_addChain_59 ?_
  refine a_isub i_Fr_addChain_60 ?_
  obtain ⟨c7, h⟩ := gd_some h
  refine a_ial (n := 16) i_Fr_addChain_61 (by decide) rfl rfl (inb_in c7) ?_
  refine a_lload_n i_Fr_addChain_62 rfl ?_
  obtain ⟨v9, σ9, e9, h⟩ := am_bd_some h
  refine am_cvd (rest := []) [.int (σ.2.1 59 (x4 - 1).toNatClampNeg), .long x2] c_Fr_addChain_63 ⟨by decide, _, rfl⟩ rfl (Nat.le_of_ble_eq_true rfl) (t_Fr_addInnermost e9) ?_
  refine a_iload i_Fr_addChain_66 rfl ?_
  refine a_iconst i_Fr_addChain_68 ?_
  refine a_isub i_Fr_addChain_69 ?_
  refine a_istore i_Fr_addChain_70 rfl ?_
  exact am_wk (t_Fr_addChain_72 4000 h) ⟨Or.inr rfl, Or.inl rfl, Or.inl rfl, Or.inl rfl, Or.inl rfl, Or.inl rfl, Or.inr rfl, trivial⟩
def g_Fr_addChain_9 : Nat → Int64 → Int32 → Int32 → Int32 → am_S → Option (Unit × am_S)
  | 0, _, _, _, _, _ => none
  | n + 1, x2, x4, x5, x6, σ =>
  if x6 < 16 then
    if x5 = (-1) then
      g_Fr_addChain_52 x2 x4 σ
    else
      am_gd (inb x6 16) <|
      am_bd (g_Fr_firstPutInto x5 x2 (am_ai σ 59 x6.toNatClampNeg x5)) fun v19 σ19 =>
      g_Fr_addChain_9 n x2 (x6 + 1) v19 (x6 + 1) σ19
  else
    g_Fr_addChain_52 x2 x4 σ
set_option maxHeartbeats 4000000 in
theorem t_Fr_addChain_9 : ∀ (n : Nat) {x2 : Int64} {x4 : Int32} {x5 : Int32} {x6 : Int32} {σ σ' : am_S} {r : Unit} (h : g_Fr_addChain_9 n x2 x4 x5 x6 σ = some (r, σ')), am_A S_c M_Fr_addChain (9, [some (.ref 58), none, some (.long x2), none, some (.int x4), some (.int x5), some (.int x6)], [], σ) (am_r S_c (fun q τ => q = none ∧ τ = σ')) := by
  intro n
  induction n with
  | zero =>
    intro x2 x4 x5 x6 σ σ' r h
    cases h
  | succ n ih =>
  intro x2 x4 x5 x6 σ σ' r h
  unfold g_Fr_addChain_9 at h
  refine a_iload i_Fr_addChain_9 rfl ?_
  refine a_bipush i_Fr_addChain_11 ?_
  by_cases c3 : x6 < 16
  · rw [if_pos c3] at h
    refine a_icf i_Fr_addChain_13 (Int32.not_le.mpr c3) ?_
    refine a_iload i_Fr_addChain_16 rfl ?_
    refine a_iconst i_Fr_addChain_18 ?_
    by_cases c6 : x5 = (-1)
    · rw [if_pos c6] at h
      refine a_ict i_Fr_addChain_19 c6 ?_
      exact am_wk (t_Fr_addChain_52 h) ⟨Or.inr rfl, Or.inl rfl, Or.inr rfl, Or.inl rfl, Or.inr rfl, Or.inl rfl, Or.inl rfl, trivial⟩
    · rw [if_neg c6] at h
      refine a_icf i_Fr_addChain_19 c6 ?_
      refine a_aload_n i_Fr_addChain_22 rfl ?_
      refine a_get (v := .ref 59) i_Fr_addChain_23 rfl rfl ?_
      refine a_iload i_Fr_addChain_26 rfl ?_
      refine a_iload i_Fr_addChain_28 rfl ?_
      obtain ⟨c11, h⟩ := gd_some h
      refine a_ias (n := 16) i_Fr_addChain_30 rfl rfl (inb_in c11) ?_
      refine a_iload i_Fr_addChain_31 rfl ?_
      refine a_iconst i_Fr_addChain_33 ?_
      refine a_iadd i_Fr_addChain_34 ?_
      refine a_istore i_Fr_addChain_35 rfl ?_
      refine a_aload_n i_Fr_addChain_37 rfl ?_
      refine a_iload i_Fr_addChain_38 rfl ?_
      refine a_lload_n i_Fr_addChain_40 rfl ?_
      obtain ⟨v19, σ19, e19, h⟩ := am_bd_some h
      refine am_cvd (rest := []) [.int x5, .long x2] c_Fr_addChain_41 ⟨by decide, _, rfl⟩ rfl (Nat.le_of_ble_eq_true rfl) (t_Fr_firstPutInto e19) ?_
      refine a_istore i_Fr_addChain_44 rfl ?_
      refine a_iinc i_Fr_addChain_46 rfl rfl ?_
      refine a_goto i_Fr_addChain_49 ?_
      exact ih h
  · rw [if_neg c3] at h
    refine a_ict i_Fr_addChain_13 (Int32.not_lt.mp c3) ?_
    exact am_wk (t_Fr_addChain_52 h) ⟨Or.inr rfl, Or.inl rfl, Or.inr rfl, Or.inl rfl, Or.inr rfl, Or.inl rfl, Or.inl rfl, trivial⟩
def g_Fr_addChain (x1 : Int32) (x2 : Int64) (σ : am_S) : Option (Unit × am_S) :=
  g_Fr_addChain_9 4000 x2 (0) x1 (0) σ
set_option maxHeartbeats 4000000 in
theorem t_Fr_addChain_0 {x1 : Int32} {x2 : Int64} {σ σ' : am_S} {r : Unit} (h : g_Fr_addChain x1 x2 σ = some (r, σ')) : am_A S_c M_Fr_addChain (0, [some (.ref 58), some (.int x1), some (.long x2), none, none, none, none], [], σ) (am_r S_c (fun q τ => q = none ∧ τ = σ')) := by
  unfold g_Fr_addChain at h
  refine a_iconst i_Fr_addChain_0 ?_
  refine a_istore i_Fr_addChain_1 rfl ?_
  refine a_iload_n i_Fr_addChain_3 rfl ?_
  refine a_istore i_Fr_addChain_4 rfl ?_
  refine a_iconst i_Fr_addChain_6 ?_
  refine a_istore i_Fr_addChain_7 rfl ?_
  exact am_wk (t_Fr_addChain_9 4000 h) ⟨Or.inr rfl, Or.inl rfl, Or.inr rfl, Or.inl rfl, Or.inr rfl, Or.inr rfl, Or.inr rfl, trivial⟩
theorem t_Fr_addChain {x1 : Int32} {x2 : Int64} {σ σ' : am_S} {r : Unit} (h : g_Fr_addChain x1 x2 σ = some (r, σ')) : am_Mt S_c M_Fr_addChain [.ref 58, .int x1, .long x2] σ (fun q τ => q = none ∧ τ = σ') :=
  am_M_of ok_Fr_addChain (Nat.le_of_ble_eq_true rfl) (t_Fr_addChain_0 h)
def g_Fr_build_59 (σ : am_S) : Option (Int32 × am_S) :=
  some (σ.1.1 58 11, σ)
set_option maxHeartbeats 4000000 in
theorem t_Fr_build_59 {σ σ' : am_S} {r : Int32} (h : g_Fr_build_59 σ = some (r, σ')) : am_A S_c M_Fr_build (59, [some (.ref 58), none, none, none, none], [], σ) (am_r S_c (fun q τ => q = some (.int r) ∧ τ = σ')) := by
  unfold g_Fr_build_59 at h
  refine a_aload_n i_Fr_build_59 rfl ?_
  refine a_get (v := .int (σ.1.1 58 11)) i_Fr_build_60 rfl rfl ?_
  exact am_ret_i ok_Fr_build rfl rfl (am_lf_i h)
def g_Fr_build (x1 : Int64) (σ : am_S) : Option (Int32 × am_S) :=
  am_bd (g_Fr_firstFunction x1 (am_fi σ 58 11 0)) fun v6 σ6 =>
  if v6 = (-1) then
    am_bd (g_Sy_covering x1 σ6) fun v14 σ14 =>
    if v14 = (-1) then
      g_Fr_build_59 σ14
    else
      am_gd (inb v14 60) <|
      am_bd (g_Fr_add (σ14.2.1 53 v14.toNatClampNeg) (-1) (0) σ14) fun _ σ27 =>
      g_Fr_build_59 σ27
  else
    am_bd (g_Fr_addChain v6 x1 σ6) fun _ σ14 =>
    some (σ14.1.1 58 11, σ14)
set_option maxHeartbeats 4000000 in
theorem t_Fr_build_0 {x1 : Int64} {σ σ' : am_S} {r : Int32} (h : g_Fr_build x1 σ = some (r, σ')) : am_A S_c M_Fr_build (0, [some (.ref 58), some (.long x1), none, none, none], [], σ) (am_r S_c (fun q τ => q = some (.int r) ∧ τ = σ')) := by
  unfold g_Fr_build at h
  refine a_aload_n i_Fr_build_0 rfl ?_
  refine a_iconst i_Fr_build_1 ?_
  refine a_puti i_Fr_build_2 rfl trivial ?_
  refine a_aload_n i_Fr_build_5 rfl ?_
  refine a_lload_n i_Fr_build_6 rfl ?_
  obtain ⟨v6, σ6, e6, h⟩ := am_bd_some h
  refine am_cvd (rest := []) [.long x1] c_Fr_build_7 ⟨by decide, _, rfl⟩ rfl (Nat.le_of_ble_eq_true rfl) (t_Fr_firstFunction e6) ?_
  refine a_istore_n i_Fr_build_10 rfl ?_
  refine a_iload_n i_Fr_build_11 rfl ?_
  refine a_iconst i_Fr_build_12 ?_
  by_cases c10 : v6 = (-1)
  · rw [if_pos c10] at h
    refine a_ict i_Fr_build_13 c10 ?_
    refine a_aload_n i_Fr_build_27 rfl ?_
    refine a_get (v := .ref 52) i_Fr_build_28 rfl rfl ?_
    refine a_lload_n i_Fr_build_31 rfl ?_
    obtain ⟨v14, σ14, e14, h⟩ := am_bd_some h
    refine am_cvd (rest := []) [.long x1] c_Fr_build_32 ⟨by decide, _, rfl⟩ rfl (Nat.le_of_ble_eq_true rfl) (t_Sy_covering e14) ?_
    refine a_istore i_Fr_build_35 rfl ?_
    refine a_iload i_Fr_build_37 rfl ?_
    refine a_iconst i_Fr_build_39 ?_
    by_cases c18 : v14 = (-1)
    · rw [if_pos c18] at h
      refine a_ict i_Fr_build_40 c18 ?_
      exact am_wk (t_Fr_build_59 h) ⟨Or.inr rfl, Or.inl rfl, Or.inl rfl, Or.inl rfl, Or.inl rfl, trivial⟩
    · rw [if_neg c18] at h
      refine a_icf i_Fr_build_40 c18 ?_
      refine a_aload_n i_Fr_build_43 rfl ?_
      refine a_aload_n i_Fr_build_44 rfl ?_
      refine a_get (v := .ref 52) i_Fr_build_45 rfl rfl ?_
      refine a_get (v := .ref 53) i_Fr_build_48 rfl rfl ?_
      refine a_iload i_Fr_build_51 rfl ?_
      obtain ⟨c24, h⟩ := gd_some h
      refine a_ial (n := 60) i_Fr_build_53 (by decide) rfl rfl (inb_in c24) ?_
      refine a_iconst i_Fr_build_54 ?_
      refine a_iconst i_Fr_build_55 ?_
      obtain ⟨v27, σ27, e27, h⟩ := am_bd_some h
      refine am_cvd (rest := []) [.int (σ14.2.1 53 v14.toNatClampNeg), .int (-1), .int 0] c_Fr_build_56 ⟨by decide, _, rfl⟩ rfl (Nat.le_of_ble_eq_true rfl) (t_Fr_add e27) ?_
      exact am_wk (t_Fr_build_59 h) ⟨Or.inr rfl, Or.inl rfl, Or.inl rfl, Or.inl rfl, Or.inl rfl, trivial⟩
  · rw [if_neg c10] at h
    refine a_icf i_Fr_build_13 c10 ?_
    refine a_aload_n i_Fr_build_16 rfl ?_
    refine a_iload_n i_Fr_build_17 rfl ?_
    refine a_lload_n i_Fr_build_18 rfl ?_
    obtain ⟨v14, σ14, e14, h⟩ := am_bd_some h
    refine am_cvd (rest := []) [.int v6, .long x1] c_Fr_build_19 ⟨by decide, _, rfl⟩ rfl (Nat.le_of_ble_eq_true rfl) (t_Fr_addChain e14) ?_
    refine a_aload_n i_Fr_build_22 rfl ?_
    refine a_get (v := .int (σ14.1.1 58 11)) i_Fr_build_23 rfl rfl ?_
    exact am_ret_i ok_Fr_build rfl rfl (am_lf_i h)
theorem t_Fr_build {x1 : Int64} {σ σ' : am_S} {r : Int32} (h : g_Fr_build x1 σ = some (r, σ')) : am_Mt S_c M_Fr_build [.ref 58, .long x1] σ (fun q τ => q = some (.int r) ∧ τ = σ') :=
  am_M_of ok_Fr_build (Nat.le_of_ble_eq_true rfl) (t_Fr_build_0 h)
