def g_F_forget (σ : am_S) : Option (Unit × am_S) :=
  some ((), am_fi (am_fi σ 0 11 0) 58 11 0)
set_option maxHeartbeats 4000000 in
theorem t_F_forget_0 {σ σ' : am_S} {r : Unit} (h : g_F_forget σ = some (r, σ')) : am_A S_c M_F_forget (0, [some (.ref 0)], [], σ) (am_r S_c (fun q τ => q = none ∧ τ = σ')) := by
  unfold g_F_forget at h
  refine a_aload_n i_F_forget_0 rfl ?_
  refine a_iconst i_F_forget_1 ?_
  refine a_puti i_F_forget_2 rfl (Or.inl rfl) ?_
  refine a_aload_n i_F_forget_5 rfl ?_
  refine a_get (v := .ref 58) i_F_forget_6 rfl rfl ?_
  refine a_iconst i_F_forget_9 ?_
  refine a_puti i_F_forget_10 rfl trivial ?_
  exact am_ret_v ok_F_forget rfl rfl (am_lf_v h)
theorem t_F_forget {σ σ' : am_S} {r : Unit} (h : g_F_forget σ = some (r, σ')) : am_Mt S_c M_F_forget [.ref 0] σ (fun q τ => q = none ∧ τ = σ') :=
  am_M_of ok_F_forget (Nat.le_of_ble_eq_true rfl) (t_F_forget_0 h)
def g_F_load_23 (σ : am_S) : Option (Int32 × am_S) :=
  some (0, σ)
set_option maxHeartbeats 4000000 in
theorem t_F_load_23 {σ σ' : am_S} {r : Int32} (h : g_F_load_23 σ = some (r, σ')) : am_A S_c M_F_load (23, [none, none, none, none, none], [], σ) (am_r S_c (fun q τ => q = some (.int r) ∧ τ = σ')) := by
  unfold g_F_load_23 at h
  refine a_iconst i_F_load_23 ?_
  exact am_ret_z ok_F_load rfl rfl (Or.inl rfl) (am_lf_i h)
def g_F_load_28 : Nat → Int32 → Int64 → Int32 → am_S → Option (Int32 × am_S)
  | 0, _, _, _, _ => none
  | n + 1, x1, x2, x4, σ =>
  if x4 < x1 then
    am_gd (inb ((σ.1.1 0 10) + x4) 3000) <|
    g_F_load_28 n x1 x2 (x4 + 1) (am_ai σ 1 ((σ.1.1 0 10) + x4).toNatClampNeg (vp_nar .byte ((((x2.toUInt64 >>> ((8 * x4).toInt64.toUInt64 &&& Int64.toUInt64 63)).toInt64).toInt32).toInt8.toInt32)))
  else
    am_bd (g_F_forget (am_fi σ 0 10 ((σ.1.1 0 10) + x1))) fun _ σ11 =>
    some (1, σ11)
set_option maxHeartbeats 4000000 in
theorem t_F_load_28 : ∀ (n : Nat) {x1 : Int32} {x2 : Int64} {x4 : Int32} {σ σ' : am_S} {r : Int32} (h : g_F_load_28 n x1 x2 x4 σ = some (r, σ')), am_A S_c M_F_load (28, [some (.ref 0), some (.int x1), some (.long x2), none, some (.int x4)], [], σ) (am_r S_c (fun q τ => q = some (.int r) ∧ τ = σ')) := by
  intro n
  induction n with
  | zero =>
    intro x1 x2 x4 σ σ' r h
    cases h
  | succ n ih =>
  intro x1 x2 x4 σ σ' r h
  unfold g_F_load_28 at h
  refine a_iload i_F_load_28 rfl ?_
  refine a_iload_n i_F_load_30 rfl ?_
  by_cases c3 : x4 < x1
  · rw [if_pos c3] at h
    refine a_icf i_F_load_31 (Int32.not_le.mpr c3) ?_
    refine a_aload_n i_F_load_34 rfl ?_
    refine a_get (v := .ref 1) i_F_load_35 rfl rfl ?_
    refine a_aload_n i_F_load_38 rfl ?_
    refine a_get (v := .int (σ.1.1 0 10)) i_F_load_39 rfl rfl ?_
    refine a_iload i_F_load_42 rfl ?_
    refine a_iadd i_F_load_44 ?_
    refine a_lload_n i_F_load_45 rfl ?_
    refine a_bipush i_F_load_46 ?_
    refine a_iload i_F_load_48 rfl ?_
    refine a_imul i_F_load_50 ?_
    refine a_lushr i_F_load_51 ?_
    refine a_l2i i_F_load_52 ?_
    refine a_i2b i_F_load_53 ?_
    obtain ⟨c17, h⟩ := gd_some h
    refine a_bas (n := 3000) i_F_load_54 rfl rfl (inb_in c17) ?_
    refine a_iinc i_F_load_55 rfl rfl ?_
    refine a_goto i_F_load_58 ?_
    exact ih h
  · rw [if_neg c3] at h
    refine a_ict i_F_load_31 (Int32.not_lt.mp c3) ?_
    refine a_aload_n i_F_load_61 rfl ?_
    refine a_dup_a i_F_load_62 ?_
    refine a_get (v := .int (σ.1.1 0 10)) i_F_load_63 rfl rfl ?_
    refine a_iload_n i_F_load_66 rfl ?_
    refine a_iadd i_F_load_67 ?_
    refine a_puti i_F_load_68 rfl trivial ?_
    refine a_aload_n i_F_load_71 rfl ?_
    obtain ⟨v11, σ11, e11, h⟩ := am_bd_some h
    refine am_cvd (rest := []) [] c_F_load_72 ⟨by decide, _, rfl⟩ rfl (Nat.le_of_ble_eq_true rfl) (t_F_forget e11) ?_
    refine a_iconst i_F_load_75 ?_
    exact am_ret_z ok_F_load rfl rfl (Or.inr rfl) (am_lf_i h)
def g_F_load (x1 : Int32) (x2 : Int64) (σ : am_S) : Option (Int32 × am_S) :=
  if x1 < 1 then
    g_F_load_23 σ
  else
    if 8 < x1 then
      g_F_load_23 σ
    else
      if (3000 - (σ.1.1 0 10)) < x1 then
        g_F_load_23 σ
      else
        g_F_load_28 4000 x1 x2 (0) σ
set_option maxHeartbeats 4000000 in
theorem t_F_load_0 {x1 : Int32} {x2 : Int64} {σ σ' : am_S} {r : Int32} (h : g_F_load x1 x2 σ = some (r, σ')) : am_A S_c M_F_load (0, [some (.ref 0), some (.int x1), some (.long x2), none, none], [], σ) (am_r S_c (fun q τ => q = some (.int r) ∧ τ = σ')) := by
  unfold g_F_load at h
  refine a_iload_n i_F_load_0 rfl ?_
  refine a_iconst i_F_load_1 ?_
  by_cases c3 : x1 < 1
  · rw [if_pos c3] at h
    refine a_ict i_F_load_2 c3 ?_
    exact am_wk (t_F_load_23 h) ⟨Or.inl rfl, Or.inl rfl, Or.inl rfl, Or.inl rfl, Or.inl rfl, trivial⟩
  · rw [if_neg c3] at h
    refine a_icf i_F_load_2 c3 ?_
    refine a_iload_n i_F_load_5 rfl ?_
    refine a_bipush i_F_load_6 ?_
    by_cases c6 : 8 < x1
    · rw [if_pos c6] at h
      refine a_ict i_F_load_8 c6 ?_
      exact am_wk (t_F_load_23 h) ⟨Or.inl rfl, Or.inl rfl, Or.inl rfl, Or.inl rfl, Or.inl rfl, trivial⟩
    · rw [if_neg c6] at h
      refine a_icf i_F_load_8 c6 ?_
      refine a_iload_n i_F_load_11 rfl ?_
      refine a_sipush i_F_load_12 ?_
      refine a_aload_n i_F_load_15 rfl ?_
      refine a_get (v := .int (σ.1.1 0 10)) i_F_load_16 rfl rfl ?_
      refine a_isub i_F_load_19 ?_
      by_cases c12 : (3000 - (σ.1.1 0 10)) < x1
      · rw [if_pos c12] at h
        refine a_icf i_F_load_20 (Int32.not_le.mpr c12) ?_
        exact am_wk (t_F_load_23 h) ⟨Or.inl rfl, Or.inl rfl, Or.inl rfl, Or.inl rfl, Or.inl rfl, trivial⟩
      · rw [if_neg c12] at h
        refine a_ict i_F_load_20 (Int32.not_lt.mp c12) ?_
        refine a_iconst i_F_load_25 ?_
        refine a_istore i_F_load_26 rfl ?_
        exact t_F_load_28 4000 h
theorem t_F_load {x1 : Int32} {x2 : Int64} {σ σ' : am_S} {r : Int32} (h : g_F_load x1 x2 σ = some (r, σ')) : am_Mt S_c M_F_load [.ref 0, .int x1, .long x2] σ (fun q τ => q = some (.int r) ∧ τ = σ') :=
  am_M_of ok_F_load (Nat.le_of_ble_eq_true rfl) (t_F_load_0 h)
def g_F_clear (σ : am_S) : Option (Unit × am_S) :=
  am_bd (g_F_forget (am_fi σ 0 10 0)) fun _ σ5 =>
  some ((), σ5)
set_option maxHeartbeats 4000000 in
theorem t_F_clear_0 {σ σ' : am_S} {r : Unit} (h : g_F_clear σ = some (r, σ')) : am_A S_c M_F_clear (0, [some (.ref 0)], [], σ) (am_r S_c (fun q τ => q = none ∧ τ = σ')) := by
  unfold g_F_clear at h
  refine a_aload_n i_F_clear_0 rfl ?_
  refine a_iconst i_F_clear_1 ?_
  refine a_puti i_F_clear_2 rfl trivial ?_
  refine a_aload_n i_F_clear_5 rfl ?_
  obtain ⟨v5, σ5, e5, h⟩ := am_bd_some h
  refine am_cvd (rest := []) [] c_F_clear_6 ⟨by decide, _, rfl⟩ rfl (Nat.le_of_ble_eq_true rfl) (t_F_forget e5) ?_
  exact am_ret_v ok_F_clear rfl rfl (am_lf_v h)
theorem t_F_clear {σ σ' : am_S} {r : Unit} (h : g_F_clear σ = some (r, σ')) : am_Mt S_c M_F_clear [.ref 0] σ (fun q τ => q = none ∧ τ = σ') :=
  am_M_of ok_F_clear (Nat.le_of_ble_eq_true rfl) (t_F_clear_0 h)
def g_F_fault (σ : am_S) : Option (Int32 × am_S) :=
  some (σ.1.1 0 12, σ)
set_option maxHeartbeats 4000000 in
theorem t_F_fault_0 {σ σ' : am_S} {r : Int32} (h : g_F_fault σ = some (r, σ')) : am_A S_c M_F_fault (0, [some (.ref 0)], [], σ) (am_r S_c (fun q τ => q = some (.int r) ∧ τ = σ')) := by
  unfold g_F_fault at h
  refine a_aload_n i_F_fault_0 rfl ?_
  refine a_get (v := .int (σ.1.1 0 12)) i_F_fault_1 rfl rfl ?_
  exact am_ret_i ok_F_fault rfl rfl (am_lf_i h)
theorem t_F_fault {σ σ' : am_S} {r : Int32} (h : g_F_fault σ = some (r, σ')) : am_Mt S_c M_F_fault [.ref 0] σ (fun q τ => q = some (.int r) ∧ τ = σ') :=
  am_M_of ok_F_fault (Nat.le_of_ble_eq_true rfl) (t_F_fault_0 h)
def g_F_count (x1 : Int32) (σ : am_S) : Option (Int32 × am_S) :=
  if (σ.1.1 0 11) = 0 then
    some ((-1), σ)
  else
    if x1 = 0 then
      some (σ.1.1 2 8, σ)
    else
    if x1 = 1 then
      some (σ.1.1 10 11, σ)
    else
    if x1 = 2 then
      some (σ.1.1 10 10, σ)
    else
    if x1 = 3 then
      some (σ.1.1 32 4, σ)
    else
    if x1 = 4 then
      some (σ.1.1 40 8, σ)
    else
    if x1 = 5 then
      some (σ.1.1 52 6, σ)
    else
    some ((-1), σ)
set_option maxHeartbeats 4000000 in
theorem t_F_count_0 {x1 : Int32} {σ σ' : am_S} {r : Int32} (h : g_F_count x1 σ = some (r, σ')) : am_A S_c M_F_count (0, [some (.ref 0), some (.int x1)], [], σ) (am_r S_c (fun q τ => q = some (.int r) ∧ τ = σ')) := by
  unfold g_F_count at h
  refine a_aload_n i_F_count_0 rfl ?_
  refine a_get (v := .int (σ.1.1 0 11)) i_F_count_1 rfl rfl ?_
  by_cases c3 : (σ.1.1 0 11) = 0
  · rw [if_pos c3] at h
    refine a_iff i_F_count_4 c3 ?_
    refine a_iconst i_F_count_7 ?_
    exact am_ret_i ok_F_count rfl rfl (am_lf_i h)
  · rw [if_neg c3] at h
    refine a_ift i_F_count_4 c3 ?_
    refine a_iload_n i_F_count_9 rfl ?_
    by_cases d5_0 : x1 = 0
    · rw [if_pos d5_0] at h
      refine a_tab 0 i_F_count_10 rfl (by rw [d5_0]; decide) (by decide) rfl ?_
      refine a_aload_n i_F_count_48 rfl ?_
      refine a_get (v := .ref 2) i_F_count_49 rfl rfl ?_
      refine a_get (v := .int (σ.1.1 2 8)) i_F_count_52 rfl rfl ?_
      exact am_ret_i ok_F_count rfl rfl (am_lf_i h)
    rw [if_neg d5_0] at h
    by_cases d5_1 : x1 = 1
    · rw [if_pos d5_1] at h
      refine a_tab 1 i_F_count_10 rfl (by rw [d5_1]; decide) (by decide) rfl ?_
      refine a_aload_n i_F_count_56 rfl ?_
      refine a_get (v := .ref 10) i_F_count_57 rfl rfl ?_
      refine a_get (v := .int (σ.1.1 10 11)) i_F_count_60 rfl rfl ?_
      exact am_ret_i ok_F_count rfl rfl (am_lf_i h)
    rw [if_neg d5_1] at h
    by_cases d5_2 : x1 = 2
    · rw [if_pos d5_2] at h
      refine a_tab 2 i_F_count_10 rfl (by rw [d5_2]; decide) (by decide) rfl ?_
      refine a_aload_n i_F_count_64 rfl ?_
      refine a_get (v := .ref 10) i_F_count_65 rfl rfl ?_
      refine a_get (v := .int (σ.1.1 10 10)) i_F_count_68 rfl rfl ?_
      exact am_ret_i ok_F_count rfl rfl (am_lf_i h)
    rw [if_neg d5_2] at h
    by_cases d5_3 : x1 = 3
    · rw [if_pos d5_3] at h
      refine a_tab 3 i_F_count_10 rfl (by rw [d5_3]; decide) (by decide) rfl ?_
      refine a_aload_n i_F_count_72 rfl ?_
      refine a_get (v := .ref 32) i_F_count_73 rfl rfl ?_
      refine a_get (v := .int (σ.1.1 32 4)) i_F_count_76 rfl rfl ?_
      exact am_ret_i ok_F_count rfl rfl (am_lf_i h)
    rw [if_neg d5_3] at h
    by_cases d5_4 : x1 = 4
    · rw [if_pos d5_4] at h
      refine a_tab 4 i_F_count_10 rfl (by rw [d5_4]; decide) (by decide) rfl ?_
      refine a_aload_n i_F_count_80 rfl ?_
      refine a_get (v := .ref 40) i_F_count_81 rfl rfl ?_
      refine a_get (v := .int (σ.1.1 40 8)) i_F_count_84 rfl rfl ?_
      exact am_ret_i ok_F_count rfl rfl (am_lf_i h)
    rw [if_neg d5_4] at h
    by_cases d5_5 : x1 = 5
    · rw [if_pos d5_5] at h
      refine a_tab 5 i_F_count_10 rfl (by rw [d5_5]; decide) (by decide) rfl ?_
      refine a_aload_n i_F_count_88 rfl ?_
      refine a_get (v := .ref 52) i_F_count_89 rfl rfl ?_
      refine a_get (v := .int (σ.1.1 52 6)) i_F_count_92 rfl rfl ?_
      exact am_ret_i ok_F_count rfl rfl (am_lf_i h)
    rw [if_neg d5_5] at h
    refine a_tabn [0, 1, 2, 3, 4, 5] i_F_count_10 rfl rfl (by decide) (List.forall_mem_cons.mpr ⟨lv_neT d5_0 (a := 0) (by decide), List.forall_mem_cons.mpr ⟨lv_neT d5_1 (a := 1) (by decide), List.forall_mem_cons.mpr ⟨lv_neT d5_2 (a := 2) (by decide), List.forall_mem_cons.mpr ⟨lv_neT d5_3 (a := 3) (by decide), List.forall_mem_cons.mpr ⟨lv_neT d5_4 (a := 4) (by decide), List.forall_mem_cons.mpr ⟨lv_neT d5_5 (a := 5) (by decide), fun _ h9 => absurd h9 List.not_mem_nil⟩⟩⟩⟩⟩⟩) ?_
    refine a_iconst i_F_count_96 ?_
    exact am_ret_i ok_F_count rfl rfl (am_lf_i h)
theorem t_F_count {x1 : Int32} {σ σ' : am_S} {r : Int32} (h : g_F_count x1 σ = some (r, σ')) : am_Mt S_c M_F_count [.ref 0, .int x1] σ (fun q τ => q = some (.int r) ∧ τ = σ') :=
  am_M_of ok_F_count (Nat.le_of_ble_eq_true rfl) (t_F_count_0 h)
def g_Fr_has_17 (y0 : Int32) (σ : am_S) : Option (Int32 × am_S) :=
  am_gd (z01 y0) <|
  some (y0, σ)
set_option maxHeartbeats 4000000 in
theorem t_Fr_has_17 {y0 : Int32} {σ σ' : am_S} {r : Int32} (h : g_Fr_has_17 y0 σ = some (r, σ')) : am_A S_c M_Fr_has (17, [none, none], [.int y0], σ) (am_r S_c (fun q τ => q = some (.int r) ∧ τ = σ')) := by
  unfold g_Fr_has_17 at h
  obtain ⟨c1, h⟩ := gd_some h
  exact am_ret_z ok_Fr_has rfl rfl (z01_or c1) (am_lf_i h)
def g_Fr_has_16 (σ : am_S) : Option (Int32 × am_S) :=
  g_Fr_has_17 (0) σ
set_option maxHeartbeats 4000000 in
theorem t_Fr_has_16 {σ σ' : am_S} {r : Int32} (h : g_Fr_has_16 σ = some (r, σ')) : am_A S_c M_Fr_has (16, [none, none], [], σ) (am_r S_c (fun q τ => q = some (.int r) ∧ τ = σ')) := by
  unfold g_Fr_has_16 at h
  refine a_iconst i_Fr_has_16 ?_
  exact t_Fr_has_17 h
def g_Fr_has (x1 : Int32) (σ : am_S) : Option (Int32 × am_S) :=
  if x1 < 0 then
    g_Fr_has_16 σ
  else
    if x1 < (σ.1.1 58 11) then
      g_Fr_has_17 (1) σ
    else
      g_Fr_has_16 σ
set_option maxHeartbeats 4000000 in
theorem t_Fr_has_0 {x1 : Int32} {σ σ' : am_S} {r : Int32} (h : g_Fr_has x1 σ = some (r, σ')) : am_A S_c M_Fr_has (0, [some (.ref 58), some (.int x1)], [], σ) (am_r S_c (fun q τ => q = some (.int r) ∧ τ = σ')) := by
  unfold g_Fr_has at h
  refine a_iload_n i_Fr_has_0 rfl ?_
  by_cases c2 : x1 < 0
  · rw [if_pos c2] at h
    refine a_ift i_Fr_has_1 c2 ?_
    exact am_wk (t_Fr_has_16 h) ⟨Or.inl rfl, Or.inl rfl, trivial⟩
  · rw [if_neg c2] at h
    refine a_iff i_Fr_has_1 c2 ?_
    refine a_iload_n i_Fr_has_4 rfl ?_
    refine a_aload_n i_Fr_has_5 rfl ?_
    refine a_get (v := .int (σ.1.1 58 11)) i_Fr_has_6 rfl rfl ?_
    by_cases c6 : x1 < (σ.1.1 58 11)
    · rw [if_pos c6] at h
      refine a_icf i_Fr_has_9 (Int32.not_le.mpr c6) ?_
      refine a_iconst i_Fr_has_12 ?_
      refine a_goto i_Fr_has_13 ?_
      exact am_wk (t_Fr_has_17 h) ⟨Or.inl rfl, Or.inl rfl, trivial⟩
    · rw [if_neg c6] at h
      refine a_ict i_Fr_has_9 (Int32.not_lt.mp c6) ?_
      exact am_wk (t_Fr_has_16 h) ⟨Or.inl rfl, Or.inl rfl, trivial⟩
theorem t_Fr_has {x1 : Int32} {σ σ' : am_S} {r : Int32} (h : g_Fr_has x1 σ = some (r, σ')) : am_Mt S_c M_Fr_has [.ref 58, .int x1] σ (fun q τ => q = some (.int r) ∧ τ = σ') :=
  am_M_of ok_Fr_has (Nat.le_of_ble_eq_true rfl) (t_Fr_has_0 h)
def g_F_character_27 (y0 : Int32) (σ : am_S) : Option (Int32 × am_S) :=
  some (y0, σ)
set_option maxHeartbeats 4000000 in
theorem t_F_character_27 {y0 : Int32} {σ σ' : am_S} {r : Int32} (h : g_F_character_27 y0 σ = some (r, σ')) : am_A S_c M_F_character (27, [none, none, none, none], [.int y0], σ) (am_r S_c (fun q τ => q = some (.int r) ∧ τ = σ')) := by
  unfold g_F_character_27 at h
  exact am_ret_i ok_F_character rfl rfl (am_lf_i h)
def g_F_character_11 (σ : am_S) : Option (Int32 × am_S) :=
  g_F_character_27 (-1) σ
set_option maxHeartbeats 4000000 in
theorem t_F_character_11 {σ σ' : am_S} {r : Int32} (h : g_F_character_11 σ = some (r, σ')) : am_A S_c M_F_character (11, [none, none, none, none], [], σ) (am_r S_c (fun q τ => q = some (.int r) ∧ τ = σ')) := by
  unfold g_F_character_11 at h
  refine a_iconst i_F_character_11 ?_
  refine a_goto i_F_character_12 ?_
  exact t_F_character_27 h
def g_F_character (x1 : Int32) (x2 : Int32) (x3 : Int32) (σ : am_S) : Option (Int32 × am_S) :=
  if x3 < 0 then
    g_F_character_11 σ
  else
    if x3 < (x2 - x1) then
      am_gd (inb (x1 + x3) 3000) <|
      g_F_character_27 ((σ.2.1 1 (x1 + x3).toNatClampNeg) &&& 255) σ
    else
      g_F_character_11 σ
set_option maxHeartbeats 4000000 in
theorem t_F_character_0 {x1 : Int32} {x2 : Int32} {x3 : Int32} {σ σ' : am_S} {r : Int32} (h : g_F_character x1 x2 x3 σ = some (r, σ')) : am_A S_c M_F_character (0, [some (.ref 0), some (.int x1), some (.int x2), some (.int x3)], [], σ) (am_r S_c (fun q τ => q = some (.int r) ∧ τ = σ')) := by
  unfold g_F_character at h
  refine a_iload_n i_F_character_0 rfl ?_
  by_cases c2 : x3 < 0
  · rw [if_pos c2] at h
    refine a_ift i_F_character_1 c2 ?_
    exact am_wk (t_F_character_11 h) ⟨Or.inl rfl, Or.inl rfl, Or.inl rfl, Or.inl rfl, trivial⟩
  · rw [if_neg c2] at h
    refine a_iff i_F_character_1 c2 ?_
    refine a_iload_n i_F_character_4 rfl ?_
    refine a_iload_n i_F_character_5 rfl ?_
    refine a_iload_n i_F_character_6 rfl ?_
    refine a_isub i_F_character_7 ?_
    by_cases c7 : x3 < (x2 - x1)
    · rw [if_pos c7] at h
      refine a_ict i_F_character_8 c7 ?_
      refine a_aload_n i_F_character_15 rfl ?_
      refine a_get (v := .ref 1) i_F_character_16 rfl rfl ?_
      refine a_iload_n i_F_character_19 rfl ?_
      refine a_iload_n i_F_character_20 rfl ?_
      refine a_iadd i_F_character_21 ?_
      obtain ⟨c13, h⟩ := gd_some h
      refine a_bal (n := 3000) i_F_character_22 rfl rfl (inb_in c13) ?_
      refine a_sipush i_F_character_23 ?_
      refine a_iand i_F_character_26 ?_
      exact am_wk (t_F_character_27 h) ⟨Or.inl rfl, Or.inl rfl, Or.inl rfl, Or.inl rfl, trivial⟩
    · rw [if_neg c7] at h
      refine a_icf i_F_character_8 c7 ?_
      exact am_wk (t_F_character_11 h) ⟨Or.inl rfl, Or.inl rfl, Or.inl rfl, Or.inl rfl, trivial⟩
theorem t_F_character {x1 : Int32} {x2 : Int32} {x3 : Int32} {σ σ' : am_S} {r : Int32} (h : g_F_character x1 x2 x3 σ = some (r, σ')) : am_Mt S_c M_F_character [.ref 0, .int x1, .int x2, .int x3] σ (fun q τ => q = some (.int r) ∧ τ = σ') :=
  am_M_of ok_F_character (Nat.le_of_ble_eq_true rfl) (t_F_character_0 h)
def g_F_name_38 (y0 : Int32) (σ : am_S) : Option (Int32 × am_S) :=
  some (y0, σ)
set_option maxHeartbeats 4000000 in
theorem t_F_name_38 {y0 : Int32} {σ σ' : am_S} {r : Int32} (h : g_F_name_38 y0 σ = some (r, σ')) : am_A S_c M_F_name (38, [none, none, none], [.int y0], σ) (am_r S_c (fun q τ => q = some (.int r) ∧ τ = σ')) := by
  unfold g_F_name_38 at h
  exact am_ret_i ok_F_name rfl rfl (am_lf_i h)
def g_F_name (x1 : Int32) (x2 : Int32) (σ : am_S) : Option (Int32 × am_S) :=
  am_bd (g_Fr_has x1 σ) fun v4 σ4 =>
  if v4 = 0 then
    g_F_name_38 (-1) σ4
  else
    am_gd (inb x1 16) <|
    am_gd (inb x1 16) <|
    am_bd (g_F_character (σ4.2.1 60 x1.toNatClampNeg) (σ4.2.1 61 x1.toNatClampNeg) x2 σ4) fun v18 σ18 =>
    g_F_name_38 v18 σ18
set_option maxHeartbeats 4000000 in
theorem t_F_name_0 {x1 : Int32} {x2 : Int32} {σ σ' : am_S} {r : Int32} (h : g_F_name x1 x2 σ = some (r, σ')) : am_A S_c M_F_name (0, [some (.ref 0), some (.int x1), some (.int x2)], [], σ) (am_r S_c (fun q τ => q = some (.int r) ∧ τ = σ')) := by
  unfold g_F_name at h
  refine a_aload_n i_F_name_0 rfl ?_
  refine a_get (v := .ref 58) i_F_name_1 rfl rfl ?_
  refine a_iload_n i_F_name_4 rfl ?_
  obtain ⟨v4, σ4, e4, h⟩ := am_bd_some h
  refine am_cvd (rest := []) [.int x1] c_F_name_5 ⟨by decide, _, rfl⟩ rfl (Nat.le_of_ble_eq_true rfl) (t_Fr_has e4) ?_
  by_cases c5 : v4 = 0
  · rw [if_pos c5] at h
    refine a_ift i_F_name_8 c5 ?_
    refine a_iconst i_F_name_37 ?_
    exact am_wk (t_F_name_38 h) ⟨Or.inl rfl, Or.inl rfl, Or.inl rfl, trivial⟩
  · rw [if_neg c5] at h
    refine a_iff i_F_name_8 c5 ?_
    refine a_aload_n i_F_name_11 rfl ?_
    refine a_aload_n i_F_name_12 rfl ?_
    refine a_get (v := .ref 58) i_F_name_13 rfl rfl ?_
    refine a_get (v := .ref 60) i_F_name_16 rfl rfl ?_
    refine a_iload_n i_F_name_19 rfl ?_
    obtain ⟨c11, h⟩ := gd_some h
    refine a_ial (n := 16) i_F_name_20 (by decide) rfl rfl (inb_in c11) ?_
    refine a_aload_n i_F_name_21 rfl ?_
    refine a_get (v := .ref 58) i_F_name_22 rfl rfl ?_
    refine a_get (v := .ref 61) i_F_name_25 rfl rfl ?_
    refine a_iload_n i_F_name_28 rfl ?_
    obtain ⟨c16, h⟩ := gd_some h
    refine a_ial (n := 16) i_F_name_29 (by decide) rfl rfl (inb_in c16) ?_
    refine a_iload_n i_F_name_30 rfl ?_
    obtain ⟨v18, σ18, e18, h⟩ := am_bd_some h
    refine am_cvd (rest := []) [.int (σ4.2.1 60 x1.toNatClampNeg), .int (σ4.2.1 61 x1.toNatClampNeg), .int x2] c_F_name_31 ⟨by decide, _, rfl⟩ rfl (Nat.le_of_ble_eq_true rfl) (t_F_character e18) ?_
    refine a_goto i_F_name_34 ?_
    exact am_wk (t_F_name_38 h) ⟨Or.inl rfl, Or.inl rfl, Or.inl rfl, trivial⟩
theorem t_F_name {x1 : Int32} {x2 : Int32} {σ σ' : am_S} {r : Int32} (h : g_F_name x1 x2 σ = some (r, σ')) : am_Mt S_c M_F_name [.ref 0, .int x1, .int x2] σ (fun q τ => q = some (.int r) ∧ τ = σ') :=
  am_M_of ok_F_name (Nat.le_of_ble_eq_true rfl) (t_F_name_0 h)
def g_F_file_38 (y0 : Int32) (σ : am_S) : Option (Int32 × am_S) :=
  some (y0, σ)
set_option maxHeartbeats 4000000 in
theorem t_F_file_38 {y0 : Int32} {σ σ' : am_S} {r : Int32} (h : g_F_file_38 y0 σ = some (r, σ')) : am_A S_c M_F_file (38, [none, none, none], [.int y0], σ) (am_r S_c (fun q τ => q = some (.int r) ∧ τ = σ')) := by
  unfold g_F_file_38 at h
  exact am_ret_i ok_F_file rfl rfl (am_lf_i h)
def g_F_file (x1 : Int32) (x2 : Int32) (σ : am_S) : Option (Int32 × am_S) :=
  am_bd (g_Fr_has x1 σ) fun v4 σ4 =>
  if v4 = 0 then
    g_F_file_38 (-1) σ4
  else
    am_gd (inb x1 16) <|
    am_gd (inb x1 16) <|
    am_bd (g_F_character (σ4.2.1 62 x1.toNatClampNeg) (σ4.2.1 63 x1.toNatClampNeg) x2 σ4) fun v18 σ18 =>
    g_F_file_38 v18 σ18
set_option maxHeartbeats 4000000 in
theorem t_F_file_0 {x1 : Int32} {x2 : Int32} {σ σ' : am_S} {r : Int32} (h : g_F_file x1 x2 σ = some (r, σ')) : am_A S_c M_F_file (0, [some (.ref 0), some (.int x1), some (.int x2)], [], σ) (am_r S_c (fun q τ => q = some (.int r) ∧ τ = σ')) := by
  unfold g_F_file at h
  refine a_aload_n i_F_file_0 rfl ?_
  refine a_get (v := .ref 58) i_F_file_1 rfl rfl ?_
  refine a_iload_n i_F_file_4 rfl ?_
  obtain ⟨v4, σ4, e4, h⟩ := am_bd_some h
  refine am_cvd (rest := []) [.int x1] c_F_file_5 ⟨by decide, _, rfl⟩ rfl (Nat.le_of_ble_eq_true rfl) (t_Fr_has e4) ?_
  by_cases c5 : v4 = 0
  · rw [if_pos c5] at h
    refine a_ift i_F_file_8 c5 ?_
    refine a_iconst i_F_file_37 ?_
    exact am_wk (t_F_file_38 h) ⟨Or.inl rfl, Or.inl rfl, Or.inl rfl, trivial⟩
  · rw [if_neg c5] at h
    refine a_iff i_F_file_8 c5 ?_
    refine a_aload_n i_F_file_11 rfl ?_
    refine a_aload_n i_F_file_12 rfl ?_
    refine a_get (v := .ref 58) i_F_file_13 rfl rfl ?_
    refine a_get (v := .ref 62) i_F_file_16 rfl rfl ?_
    refine a_iload_n i_F_file_19 rfl ?_
    obtain ⟨c11, h⟩ := gd_some h
    refine a_ial (n := 16) i_F_file_20 (by decide) rfl rfl (inb_in c11) ?_
    refine a_aload_n i_F_file_21 rfl ?_
    refine a_get (v := .ref 58) i_F_file_22 rfl rfl ?_
    refine a_get (v := .ref 63) i_F_file_25 rfl rfl ?_
    refine a_iload_n i_F_file_28 rfl ?_
    obtain ⟨c16, h⟩ := gd_some h
    refine a_ial (n := 16) i_F_file_29 (by decide) rfl rfl (inb_in c16) ?_
    refine a_iload_n i_F_file_30 rfl ?_
    obtain ⟨v18, σ18, e18, h⟩ := am_bd_some h
    refine am_cvd (rest := []) [.int (σ4.2.1 62 x1.toNatClampNeg), .int (σ4.2.1 63 x1.toNatClampNeg), .int x2] c_F_file_31 ⟨by decide, _, rfl⟩ rfl (Nat.le_of_ble_eq_true rfl) (t_F_character e18) ?_
    refine a_goto i_F_file_34 ?_
    exact am_wk (t_F_file_38 h) ⟨Or.inl rfl, Or.inl rfl, Or.inl rfl, trivial⟩
theorem t_F_file {x1 : Int32} {x2 : Int32} {σ σ' : am_S} {r : Int32} (h : g_F_file x1 x2 σ = some (r, σ')) : am_Mt S_c M_F_file [.ref 0, .int x1, .int x2] σ (fun q τ => q = some (.int r) ∧ τ = σ') :=
  am_M_of ok_F_file (Nat.le_of_ble_eq_true rfl) (t_F_file_0 h)
def g_F_line_24 (y0 : Int32) (σ : am_S) : Option (Int32 × am_S) :=
  some (y0, σ)
set_option maxHeartbeats 4000000 in
theorem t_F_line_24 {y0 : Int32} {σ σ' : am_S} {r : Int32} (h : g_F_line_24 y0 σ = some (r, σ')) : am_A S_c M_F_line (24, [none, none], [.int y0], σ) (am_r S_c (fun q τ => q = some (.int r) ∧ τ = σ')) := by
  unfold g_F_line_24 at h
  exact am_ret_i ok_F_line rfl rfl (am_lf_i h)
def g_F_line (x1 : Int32) (σ : am_S) : Option (Int32 × am_S) :=
  am_bd (g_Fr_has x1 σ) fun v4 σ4 =>
  if v4 = 0 then
    g_F_line_24 (-1) σ4
  else
    am_gd (inb x1 16) <|
    g_F_line_24 (σ4.2.1 64 x1.toNatClampNeg) σ4
set_option maxHeartbeats 4000000 in
theorem t_F_line_0 {x1 : Int32} {σ σ' : am_S} {r : Int32} (h : g_F_line x1 σ = some (r, σ')) : am_A S_c M_F_line (0, [some (.ref 0), some (.int x1)], [], σ) (am_r S_c (fun q τ => q = some (.int r) ∧ τ = σ')) := by
  unfold g_F_line at h
  refine a_aload_n i_F_line_0 rfl ?_
  refine a_get (v := .ref 58) i_F_line_1 rfl rfl ?_
  refine a_iload_n i_F_line_4 rfl ?_
  obtain ⟨v4, σ4, e4, h⟩ := am_bd_some h
  refine am_cvd (rest := []) [.int x1] c_F_line_5 ⟨by decide, _, rfl⟩ rfl (Nat.le_of_ble_eq_true rfl) (t_Fr_has e4) ?_
  by_cases c5 : v4 = 0
  · rw [if_pos c5] at h
    refine a_ift i_F_line_8 c5 ?_
    refine a_iconst i_F_line_23 ?_
    exact am_wk (t_F_line_24 h) ⟨Or.inl rfl, Or.inl rfl, trivial⟩
  · rw [if_neg c5] at h
    refine a_iff i_F_line_8 c5 ?_
    refine a_aload_n i_F_line_11 rfl ?_
    refine a_get (v := .ref 58) i_F_line_12 rfl rfl ?_
    refine a_get (v := .ref 64) i_F_line_15 rfl rfl ?_
    refine a_iload_n i_F_line_18 rfl ?_
    obtain ⟨c10, h⟩ := gd_some h
    refine a_ial (n := 16) i_F_line_19 (by decide) rfl rfl (inb_in c10) ?_
    refine a_goto i_F_line_20 ?_
    exact am_wk (t_F_line_24 h) ⟨Or.inl rfl, Or.inl rfl, trivial⟩
theorem t_F_line {x1 : Int32} {σ σ' : am_S} {r : Int32} (h : g_F_line x1 σ = some (r, σ')) : am_Mt S_c M_F_line [.ref 0, .int x1] σ (fun q τ => q = some (.int r) ∧ τ = σ') :=
  am_M_of ok_F_line (Nat.le_of_ble_eq_true rfl) (t_F_line_0 h)
def g_F_isBelow_19 (y0 : Int32) (σ : am_S) : Option (Int32 × am_S) :=
  am_gd (z01 y0) <|
  some (y0, σ)
set_option maxHeartbeats 4000000 in
theorem t_F_isBelow_19 {y0 : Int32} {σ σ' : am_S} {r : Int32} (h : g_F_isBelow_19 y0 σ = some (r, σ')) : am_A S_c M_F_isBelow (19, [none, none, none, none], [.int y0], σ) (am_r S_c (fun q τ => q = some (.int r) ∧ τ = σ')) := by
  unfold g_F_isBelow_19 at h
  obtain ⟨c1, h⟩ := gd_some h
  exact am_ret_z ok_F_isBelow rfl rfl (z01_or c1) (am_lf_i h)
def g_F_isBelow (x0 : Int64) (x2 : Int64) (σ : am_S) : Option (Int32 × am_S) :=
  if (lg_cmp (x0 ^^^ (-9223372036854775808)) (x2 ^^^ (-9223372036854775808))) < 0 then
    g_F_isBelow_19 (1) σ
  else
    g_F_isBelow_19 (0) σ
set_option maxHeartbeats 4000000 in
theorem t_F_isBelow_0 {x0 : Int64} {x2 : Int64} {σ σ' : am_S} {r : Int32} (h : g_F_isBelow x0 x2 σ = some (r, σ')) : am_A S_c M_F_isBelow (0, [some (.long x0), none, some (.long x2), none], [], σ) (am_r S_c (fun q τ => q = some (.int r) ∧ τ = σ')) := by
  unfold g_F_isBelow at h
  refine a_lload_n i_F_isBelow_0 rfl ?_
  refine a_ldc2 i_F_isBelow_1 ?_
  refine a_lxor i_F_isBelow_4 ?_
  refine a_lload_n i_F_isBelow_5 rfl ?_
  refine a_ldc2 i_F_isBelow_6 ?_
  refine a_lxor i_F_isBelow_9 ?_
  refine a_lcmp i_F_isBelow_10 ?_
  by_cases c8 : (lg_cmp (x0 ^^^ (-9223372036854775808)) (x2 ^^^ (-9223372036854775808))) < 0
  · rw [if_pos c8] at h
    refine a_iff i_F_isBelow_11 (Int32.not_le.mpr c8) ?_
    refine a_iconst i_F_isBelow_14 ?_
    refine a_goto i_F_isBelow_15 ?_
    exact am_wk (t_F_isBelow_19 h) ⟨Or.inl rfl, Or.inl rfl, Or.inl rfl, Or.inl rfl, trivial⟩
  · rw [if_neg c8] at h
    refine a_ift i_F_isBelow_11 (Int32.not_lt.mp c8) ?_
    refine a_iconst i_F_isBelow_18 ?_
    exact am_wk (t_F_isBelow_19 h) ⟨Or.inl rfl, Or.inl rfl, Or.inl rfl, Or.inl rfl, trivial⟩
theorem t_F_isBelow {x0 : Int64} {x2 : Int64} {σ σ' : am_S} {r : Int32} (h : g_F_isBelow x0 x2 σ = some (r, σ')) : am_Mt S_c M_F_isBelow [.long x0, .long x2] σ (fun q τ => q = some (.int r) ∧ τ = σ') :=
  am_M_of ok_F_isBelow (Nat.le_of_ble_eq_true rfl) (t_F_isBelow_0 h)
def g_F_indexOf_66_2 : Nat → Int64 → Int32 → am_S → Option (Int32 × am_S)
  | 0, _, _, _ => none
  | n + 1, x1, x3, σ =>
  if x3 < (Int32.ofNat 7) then
    am_gd (inb x3 7) <|
    if (lg_cmp ((am_cs S_c 66 x3.toNatClampNeg).toInt64) x1) = 0 then
      some (x3, σ)
    else
      g_F_indexOf_66_2 n x1 (x3 + 1) σ
  else
    some ((-1), σ)
set_option maxHeartbeats 4000000 in
theorem t_F_indexOf_66_2 : ∀ (n : Nat) {x1 : Int64} {x3 : Int32} {σ σ' : am_S} {r : Int32} (h : g_F_indexOf_66_2 n x1 x3 σ = some (r, σ')), am_A S_c M_F_indexOf (2, [some (.ref 66), some (.long x1), none, some (.int x3)], [], σ) (am_r S_c (fun q τ => q = some (.int r) ∧ τ = σ')) := by
  intro n
  induction n with
  | zero =>
    intro x1 x3 σ σ' r h
    cases h
  | succ n ih =>
  intro x1 x3 σ σ' r h
  unfold g_F_indexOf_66_2 at h
  refine a_iload_n i_F_indexOf_2 rfl ?_
  refine a_aload_n i_F_indexOf_3 rfl ?_
  refine a_len i_F_indexOf_4 rfl rfl ?_
  by_cases c4 : x3 < (Int32.ofNat 7)
  · rw [if_pos c4] at h
    refine a_icf i_F_indexOf_5 (Int32.not_le.mpr c4) ?_
    refine a_aload_n i_F_indexOf_8 rfl ?_
    refine a_iload_n i_F_indexOf_9 rfl ?_
    obtain ⟨c7, h⟩ := gd_some h
    refine a_ials (n := 7) i_F_indexOf_10 (by decide) rfl rfl (inb_in c7) ?_
    refine a_i2l i_F_indexOf_11 ?_
    refine a_lload_n i_F_indexOf_12 rfl ?_
    refine a_lcmp i_F_indexOf_13 ?_
    by_cases c11 : (lg_cmp ((am_cs S_c 66 x3.toNatClampNeg).toInt64) x1) = 0
    · rw [if_pos c11] at h
      refine a_iff i_F_indexOf_14 c11 ?_
      refine a_iload_n i_F_indexOf_17 rfl ?_
      exact am_ret_i ok_F_indexOf rfl rfl (am_lf_i h)
    · rw [if_neg c11] at h
      refine a_ift i_F_indexOf_14 c11 ?_
      refine a_iinc i_F_indexOf_19 rfl rfl ?_
      refine a_goto i_F_indexOf_22 ?_
      exact ih h
  · rw [if_neg c4] at h
    refine a_ict i_F_indexOf_5 (Int32.not_lt.mp c4) ?_
    refine a_iconst i_F_indexOf_25 ?_
    exact am_ret_i ok_F_indexOf rfl rfl (am_lf_i h)
def g_F_indexOf_66 (x1 : Int64) (σ : am_S) : Option (Int32 × am_S) :=
  g_F_indexOf_66_2 4000 x1 (0) σ
set_option maxHeartbeats 4000000 in
theorem t_F_indexOf_66_0 {x1 : Int64} {σ σ' : am_S} {r : Int32} (h : g_F_indexOf_66 x1 σ = some (r, σ')) : am_A S_c M_F_indexOf (0, [some (.ref 66), some (.long x1), none, none], [], σ) (am_r S_c (fun q τ => q = some (.int r) ∧ τ = σ')) := by
  unfold g_F_indexOf_66 at h
  refine a_iconst i_F_indexOf_0 ?_
  refine a_istore_n i_F_indexOf_1 rfl ?_
  exact t_F_indexOf_66_2 4000 h
theorem t_F_indexOf_66 {x1 : Int64} {σ σ' : am_S} {r : Int32} (h : g_F_indexOf_66 x1 σ = some (r, σ')) : am_Mt S_c M_F_indexOf [.ref 66, .long x1] σ (fun q τ => q = some (.int r) ∧ τ = σ') :=
  am_M_of ok_F_indexOf (Nat.le_of_ble_eq_true rfl) (t_F_indexOf_66_0 h)
def g_F_indexOf_67_2 : Nat → Int64 → Int32 → am_S → Option (Int32 × am_S)
  | 0, _, _, _ => none
  | n + 1, x1, x3, σ =>
  if x3 < (Int32.ofNat 4) then
    am_gd (inb x3 4) <|
    if (lg_cmp ((am_cs S_c 67 x3.toNatClampNeg).toInt64) x1) = 0 then
      some (x3, σ)
    else
      g_F_indexOf_67_2 n x1 (x3 + 1) σ
  else
    some ((-1), σ)
set_option maxHeartbeats 4000000 in
theorem t_F_indexOf_67_2 : ∀ (n : Nat) {x1 : Int64} {x3 : Int32} {σ σ' : am_S} {r : Int32} (h : g_F_indexOf_67_2 n x1 x3 σ = some (r, σ')), am_A S_c M_F_indexOf (2, [some (.ref 67), some (.long x1), none, some (.int x3)], [], σ) (am_r S_c (fun q τ => q = some (.int r) ∧ τ = σ')) := by
  intro n
  induction n with
  | zero =>
    intro x1 x3 σ σ' r h
    cases h
  | succ n ih =>
  intro x1 x3 σ σ' r h
  unfold g_F_indexOf_67_2 at h
  refine a_iload_n i_F_indexOf_2 rfl ?_
  refine a_aload_n i_F_indexOf_3 rfl ?_
  refine a_len i_F_indexOf_4 rfl rfl ?_
  by_cases c4 : x3 < (Int32.ofNat 4)
  · rw [if_pos c4] at h
    refine a_icf i_F_indexOf_5 (Int32.not_le.mpr c4) ?_
    refine a_aload_n i_F_indexOf_8 rfl ?_
    refine a_iload_n i_F_indexOf_9 rfl ?_
    obtain ⟨c7, h⟩ := gd_some h
    refine a_ials (n := 4) i_F_indexOf_10 (by decide) rfl rfl (inb_in c7) ?_
    refine a_i2l i_F_indexOf_11 ?_
    refine a_lload_n i_F_indexOf_12 rfl ?_
    refine a_lcmp i_F_indexOf_13 ?_
    by_cases c11 : (lg_cmp ((am_cs S_c 67 x3.toNatClampNeg).toInt64) x1) = 0
    · rw [if_pos c11] at h
      refine a_iff i_F_indexOf_14 c11 ?_
      refine a_iload_n i_F_indexOf_17 rfl ?_
      exact am_ret_i ok_F_indexOf rfl rfl (am_lf_i h)
    · rw [if_neg c11] at h
      refine a_ift i_F_indexOf_14 c11 ?_
      refine a_iinc i_F_indexOf_19 rfl rfl ?_
      refine a_goto i_F_indexOf_22 ?_
      exact ih h
  · rw [if_neg c4] at h
    refine a_ict i_F_indexOf_5 (Int32.not_lt.mp c4) ?_
    refine a_iconst i_F_indexOf_25 ?_
    exact am_ret_i ok_F_indexOf rfl rfl (am_lf_i h)
def g_F_indexOf_67 (x1 : Int64) (σ : am_S) : Option (Int32 × am_S) :=
  g_F_indexOf_67_2 4000 x1 (0) σ
set_option maxHeartbeats 4000000 in
theorem t_F_indexOf_67_0 {x1 : Int64} {σ σ' : am_S} {r : Int32} (h : g_F_indexOf_67 x1 σ = some (r, σ')) : am_A S_c M_F_indexOf (0, [some (.ref 67), some (.long x1), none, none], [], σ) (am_r S_c (fun q τ => q = some (.int r) ∧ τ = σ')) := by
  unfold g_F_indexOf_67 at h
  refine a_iconst i_F_indexOf_0 ?_
  refine a_istore_n i_F_indexOf_1 rfl ?_
  exact t_F_indexOf_67_2 4000 h
theorem t_F_indexOf_67 {x1 : Int64} {σ σ' : am_S} {r : Int32} (h : g_F_indexOf_67 x1 σ = some (r, σ')) : am_Mt S_c M_F_indexOf [.ref 67, .long x1] σ (fun q τ => q = some (.int r) ∧ τ = σ') :=
  am_M_of ok_F_indexOf (Nat.le_of_ble_eq_true rfl) (t_F_indexOf_67_0 h)
def g_Se_point_76 (k : Nat) (y0 : Int32) (σ : am_S) : Option (Unit × am_S) :=
  am_gd (z01 y0) <|
  some ((), am_fi σ k 3 y0)
set_option maxHeartbeats 4000000 in
theorem t_Se_point_76 {k : Nat} {y0 : Int32} {σ σ' : am_S} {r : Unit} (hk : cu k) (h : g_Se_point_76 k y0 σ = some (r, σ')) : am_A S_c M_Se_point (76, [none, none, none, none, none, none, none, none], [.int y0, .ref k], σ) (am_r S_c (fun q τ => q = none ∧ τ = σ')) := by
  unfold g_Se_point_76 at h
  obtain ⟨c1, h⟩ := gd_some h
  refine a_puti i_Se_point_76 (hk.has rfl) (z01_or c1) ?_
  exact am_ret_v ok_Se_point rfl rfl (am_lf_v h)
def g_Se_point_56 (k : Nat) (x6 : Int32) (x7 : Int32) (y0 : Int32) (σ : am_S) : Option (Unit × am_S) :=
  if x7 = 0 then
    g_Se_point_76 k (1) (am_fi (am_fi σ k 1 y0) k 2 x6)
  else
    g_Se_point_76 k (0) (am_fi (am_fi σ k 1 y0) k 2 x6)
set_option maxHeartbeats 4000000 in
theorem t_Se_point_56 {k : Nat} {x6 : Int32} {x7 : Int32} {y0 : Int32} {σ σ' : am_S} {r : Unit} (hk : cu k) (h : g_Se_point_56 k x6 x7 y0 σ = some (r, σ')) : am_A S_c M_Se_point (56, [none, some (.ref k), none, none, none, none, some (.int x6), some (.int x7)], [.int y0, .ref k], σ) (am_r S_c (fun q τ => q = none ∧ τ = σ')) := by
  unfold g_Se_point_56 at h
  refine a_puti i_Se_point_56 (hk.has rfl) trivial ?_
  refine a_aload_n i_Se_point_59 rfl ?_
  refine a_iload i_Se_point_60 rfl ?_
  refine a_puti i_Se_point_62 (hk.has rfl) trivial ?_
  refine a_aload_n i_Se_point_65 rfl ?_
  refine a_iload i_Se_point_66 rfl ?_
  by_cases c7 : x7 = 0
  · rw [if_pos c7] at h
    refine a_iff i_Se_point_68 c7 ?_
    refine a_iconst i_Se_point_71 ?_
    refine a_goto i_Se_point_72 ?_
    exact am_wk (t_Se_point_76 hk h) ⟨Or.inl rfl, Or.inl rfl, Or.inl rfl, Or.inl rfl, Or.inl rfl, Or.inl rfl, Or.inl rfl, Or.inl rfl, trivial⟩
  · rw [if_neg c7] at h
    refine a_ift i_Se_point_68 c7 ?_
    refine a_iconst i_Se_point_75 ?_
    exact am_wk (t_Se_point_76 hk h) ⟨Or.inl rfl, Or.inl rfl, Or.inl rfl, Or.inl rfl, Or.inl rfl, Or.inl rfl, Or.inl rfl, Or.inl rfl, trivial⟩
def g_Se_point_38 (k : Nat) (x3 : Int64) (x5 : Int32) (x6 : Int32) (y0 : Int32) (σ : am_S) : Option (Unit × am_S) :=
  if y0 = 0 then
    g_Se_point_56 k x6 y0 x6 σ
  else
    g_Se_point_56 k x6 y0 (x5 + x3.toInt32) σ
set_option maxHeartbeats 4000000 in
theorem t_Se_point_38 {k : Nat} {x3 : Int64} {x5 : Int32} {x6 : Int32} {y0 : Int32} {σ σ' : am_S} {r : Unit} (hk : cu k) (h : g_Se_point_38 k x3 x5 x6 y0 σ = some (r, σ')) : am_A S_c M_Se_point (38, [none, some (.ref k), none, some (.long x3), none, some (.int x5), some (.int x6), none], [.int y0], σ) (am_r S_c (fun q τ => q = none ∧ τ = σ')) := by
  unfold g_Se_point_38 at h
  refine a_istore i_Se_point_38 rfl ?_
  refine a_aload_n i_Se_point_40 rfl ?_
  refine a_iload i_Se_point_41 rfl ?_
  by_cases c4 : y0 = 0
  · rw [if_pos c4] at h
    refine a_ift i_Se_point_43 c4 ?_
    refine a_iload i_Se_point_54 rfl ?_
    exact am_wk (t_Se_point_56 hk h) ⟨Or.inl rfl, Or.inr rfl, Or.inl rfl, Or.inl rfl, Or.inl rfl, Or.inl rfl, Or.inr rfl, Or.inr rfl, trivial⟩
  · rw [if_neg c4] at h
    refine a_iff i_Se_point_43 c4 ?_
    refine a_iload i_Se_point_46 rfl ?_
    refine a_lload_n i_Se_point_48 rfl ?_
    refine a_l2i i_Se_point_49 ?_
    refine a_iadd i_Se_point_50 ?_
    refine a_goto i_Se_point_51 ?_
    exact am_wk (t_Se_point_56 hk h) ⟨Or.inl rfl, Or.inr rfl, Or.inl rfl, Or.inl rfl, Or.inl rfl, Or.inl rfl, Or.inr rfl, Or.inr rfl, trivial⟩
def g_Se_point_37 (k : Nat) (x3 : Int64) (x5 : Int32) (x6 : Int32) (σ : am_S) : Option (Unit × am_S) :=
  g_Se_point_38 k x3 x5 x6 (0) σ
set_option maxHeartbeats 4000000 in
theorem t_Se_point_37 {k : Nat} {x3 : Int64} {x5 : Int32} {x6 : Int32} {σ σ' : am_S} {r : Unit} (hk : cu k) (h : g_Se_point_37 k x3 x5 x6 σ = some (r, σ')) : am_A S_c M_Se_point (37, [none, some (.ref k), none, some (.long x3), none, some (.int x5), some (.int x6), none], [], σ) (am_r S_c (fun q τ => q = none ∧ τ = σ')) := by
  unfold g_Se_point_37 at h
  refine a_iconst i_Se_point_37 ?_
  exact t_Se_point_38 hk h
def g_Se_point (k : Nat) (x2 : Int32) (x3 : Int64) (σ : am_S) : Option (Unit × am_S) :=
  am_gd (inb x2 10) <|
  am_gd (inb x2 10) <|
  if (lg_cmp x3 0) < 0 then
    g_Se_point_37 k x3 (σ.2.1 6 x2.toNatClampNeg) (σ.2.1 7 x2.toNatClampNeg) σ
  else
    if 0 < (lg_cmp x3 (((σ.2.1 7 x2.toNatClampNeg) - (σ.2.1 6 x2.toNatClampNeg)).toInt64)) then
      g_Se_point_37 k x3 (σ.2.1 6 x2.toNatClampNeg) (σ.2.1 7 x2.toNatClampNeg) σ
    else
      g_Se_point_38 k x3 (σ.2.1 6 x2.toNatClampNeg) (σ.2.1 7 x2.toNatClampNeg) (1) σ
set_option maxHeartbeats 4000000 in
theorem t_Se_point_0 {k : Nat} {x2 : Int32} {x3 : Int64} {σ σ' : am_S} {r : Unit} (hk : cu k) (h : g_Se_point k x2 x3 σ = some (r, σ')) : am_A S_c M_Se_point (0, [some (.ref 2), some (.ref k), some (.int x2), some (.long x3), none, none, none, none], [], σ) (am_r S_c (fun q τ => q = none ∧ τ = σ')) := by
  unfold g_Se_point at h
  refine a_aload_n i_Se_point_0 rfl ?_
  refine a_get (v := .ref 6) i_Se_point_1 rfl rfl ?_
  refine a_iload_n i_Se_point_4 rfl ?_
  obtain ⟨c4, h⟩ := gd_some h
  refine a_ial (n := 10) i_Se_point_5 (by decide) rfl rfl (inb_in c4) ?_
  refine a_istore i_Se_point_6 rfl ?_
  refine a_aload_n i_Se_point_8 rfl ?_
  refine a_get (v := .ref 7) i_Se_point_9 rfl rfl ?_
  refine a_iload_n i_Se_point_12 rfl ?_
  obtain ⟨c9, h⟩ := gd_some h
  refine a_ial (n := 10) i_Se_point_13 (by decide) rfl rfl (inb_in c9) ?_
  refine a_istore i_Se_point_14 rfl ?_
  refine a_lload_n i_Se_point_16 rfl ?_
  refine a_lconst i_Se_point_17 ?_
  refine a_lcmp i_Se_point_18 ?_
  by_cases c14 : (lg_cmp x3 0) < 0
  · rw [if_pos c14] at h
    refine a_ift i_Se_point_19 c14 ?_
    exact am_wk (t_Se_point_37 hk h) ⟨Or.inl rfl, Or.inr rfl, Or.inl rfl, Or.inr rfl, Or.inl rfl, Or.inr rfl, Or.inr rfl, Or.inl rfl, trivial⟩
  · rw [if_neg c14] at h
    refine a_iff i_Se_point_19 c14 ?_
    refine a_lload_n i_Se_point_22 rfl ?_
    refine a_iload i_Se_point_23 rfl ?_
    refine a_iload i_Se_point_25 rfl ?_
    refine a_isub i_Se_point_27 ?_
    refine a_i2l i_Se_point_28 ?_
    refine a_lcmp i_Se_point_29 ?_
    by_cases c21 : 0 < (lg_cmp x3 (((σ.2.1 7 x2.toNatClampNeg) - (σ.2.1 6 x2.toNatClampNeg)).toInt64))
    · rw [if_pos c21] at h
      refine a_ift i_Se_point_30 c21 ?_
      exact am_wk (t_Se_point_37 hk h) ⟨Or.inl rfl, Or.inr rfl, Or.inl rfl, Or.inr rfl, Or.inl rfl, Or.inr rfl, Or.inr rfl, Or.inl rfl, trivial⟩
    · rw [if_neg c21] at h
      refine a_iff i_Se_point_30 c21 ?_
      refine a_iconst i_Se_point_33 ?_
      refine a_goto i_Se_point_34 ?_
      exact am_wk (t_Se_point_38 hk h) ⟨Or.inl rfl, Or.inr rfl, Or.inl rfl, Or.inr rfl, Or.inl rfl, Or.inr rfl, Or.inr rfl, Or.inl rfl, trivial⟩
theorem t_Se_point {k : Nat} {x2 : Int32} {x3 : Int64} {σ σ' : am_S} {r : Unit} (hk : cu k) (h : g_Se_point k x2 x3 σ = some (r, σ')) : am_Mt S_c M_Se_point [.ref 2, .ref k, .int x2, .long x3] σ (fun q τ => q = none ∧ τ = σ') :=
  am_M_of ok_Se_point (Nat.le_of_ble_eq_true rfl) (t_Se_point_0 hk h)
def g_Se_textAt_35 (y0 : Int32) (σ : am_S) : Option (Int32 × am_S) :=
  some (y0, σ)
set_option maxHeartbeats 4000000 in
theorem t_Se_textAt_35 {y0 : Int32} {σ σ' : am_S} {r : Int32} (h : g_Se_textAt_35 y0 σ = some (r, σ')) : am_A S_c M_Se_textAt (35, [none, none, none, none, none], [.int y0], σ) (am_r S_c (fun q τ => q = some (.int r) ∧ τ = σ')) := by
  unfold g_Se_textAt_35 at h
  exact am_ret_i ok_Se_textAt rfl rfl (am_lf_i h)
def g_Se_textAt (x1 : Int32) (x2 : Int64) (σ : am_S) : Option (Int32 × am_S) :=
  am_bd (g_Se_point 9 x1 x2 σ) fun _ σ6 =>
  am_bd (g_Cu_text 9 σ6) fun v9 σ9 =>
  if (σ9.1.1 9 3) = 0 then
    g_Se_textAt_35 v9 σ9
  else
    g_Se_textAt_35 (-1) σ9
set_option maxHeartbeats 4000000 in
theorem t_Se_textAt_0 {x1 : Int32} {x2 : Int64} {σ σ' : am_S} {r : Int32} (h : g_Se_textAt x1 x2 σ = some (r, σ')) : am_A S_c M_Se_textAt (0, [some (.ref 2), some (.int x1), some (.long x2), none, none], [], σ) (am_r S_c (fun q τ => q = some (.int r) ∧ τ = σ')) := by
  unfold g_Se_textAt at h
  refine a_aload_n i_Se_textAt_0 rfl ?_
  refine a_aload_n i_Se_textAt_1 rfl ?_
  refine a_get (v := .ref 9) i_Se_textAt_2 rfl rfl ?_
  refine a_iload_n i_Se_textAt_5 rfl ?_
  refine a_lload_n i_Se_textAt_6 rfl ?_
  obtain ⟨v6, σ6, e6, h⟩ := am_bd_some h
  refine am_cvd (rest := []) [.ref 9, .int x1, .long x2] c_Se_textAt_7 ⟨by decide, _, rfl⟩ rfl (Nat.le_of_ble_eq_true rfl) (t_Se_point cu_9 e6) ?_
  refine a_aload_n i_Se_textAt_10 rfl ?_
  refine a_get (v := .ref 9) i_Se_textAt_11 rfl rfl ?_
  obtain ⟨v9, σ9, e9, h⟩ := am_bd_some h
  refine am_cvd (rest := []) [] c_Se_textAt_14 ⟨by decide, _, rfl⟩ rfl (Nat.le_of_ble_eq_true rfl) (t_Cu_text cu_9 e9) ?_
  refine a_istore i_Se_textAt_17 rfl ?_
  refine a_aload_n i_Se_textAt_19 rfl ?_
  refine a_get (v := .ref 9) i_Se_textAt_20 rfl rfl ?_
  refine a_get (v := .int (σ9.1.1 9 3)) i_Se_textAt_23 rfl rfl ?_
  by_cases c14 : (σ9.1.1 9 3) = 0
  · rw [if_pos c14] at h
    refine a_ift i_Se_textAt_26 c14 ?_
    refine a_iload i_Se_textAt_33 rfl ?_
    exact am_wk (t_Se_textAt_35 h) ⟨Or.inl rfl, Or.inl rfl, Or.inl rfl, Or.inl rfl, Or.inl rfl, trivial⟩
  · rw [if_neg c14] at h
    refine a_iff i_Se_textAt_26 c14 ?_
    refine a_iconst i_Se_textAt_29 ?_
    refine a_goto i_Se_textAt_30 ?_
    exact am_wk (t_Se_textAt_35 h) ⟨Or.inl rfl, Or.inl rfl, Or.inl rfl, Or.inl rfl, Or.inl rfl, trivial⟩
theorem t_Se_textAt {x1 : Int32} {x2 : Int64} {σ σ' : am_S} {r : Int32} (h : g_Se_textAt x1 x2 σ = some (r, σ')) : am_Mt S_c M_Se_textAt [.ref 2, .int x1, .long x2] σ (fun q τ => q = some (.int r) ∧ τ = σ') :=
  am_M_of ok_Se_textAt (Nat.le_of_ble_eq_true rfl) (t_Se_textAt_0 h)
def g_Se_readHead_143 (σ : am_S) : Option (Int32 × am_S) :=
  some (0, σ)
set_option maxHeartbeats 4000000 in
theorem t_Se_readHead_143 {σ σ' : am_S} {r : Int32} (h : g_Se_readHead_143 σ = some (r, σ')) : am_A S_c M_Se_readHead (143, [none, none, none, none, none, none], [], σ) (am_r S_c (fun q τ => q = some (.int r) ∧ τ = σ')) := by
  unfold g_Se_readHead_143 at h
  refine a_iconst i_Se_readHead_143 ?_
  exact am_ret_z ok_Se_readHead rfl rfl (Or.inl rfl) (am_lf_i h)
def g_Se_readHead_166 (σ : am_S) : Option (Int32 × am_S) :=
  some (0, σ)
set_option maxHeartbeats 4000000 in
theorem t_Se_readHead_166 {σ σ' : am_S} {r : Int32} (h : g_Se_readHead_166 σ = some (r, σ')) : am_A S_c M_Se_readHead (166, [none, none, none, none, none, none], [], σ) (am_r S_c (fun q τ => q = some (.int r) ∧ τ = σ')) := by
  unfold g_Se_readHead_166 at h
  refine a_iconst i_Se_readHead_166 ?_
  exact am_ret_z ok_Se_readHead rfl rfl (Or.inl rfl) (am_lf_i h)
def g_Se_readHead_10 : Nat → Int32 → Int32 → am_S → Option (Int32 × am_S)
  | 0, _, _, _ => none
  | n + 1, x1, x2, σ =>
  if x2 < (Int32.ofNat 7) then
    am_gd (inb x2 3000) <|
    am_gd (inb x2 7) <|
    if (σ.2.1 1 x2.toNatClampNeg) = (am_cs S_c 65 x2.toNatClampNeg) then
      g_Se_readHead_10 n x1 (x2 + 1) σ
    else
      some (0, σ)
  else
    am_bd (g_Cu_set 9 (40) x1 σ) fun _ σ9 =>
    am_bd (g_Cu_number 9 (8) σ9) fun v13 σ13 =>
    am_bd (g_Cu_set 9 (58) x1 σ13) fun _ σ19 =>
    am_bd (g_Cu_number 9 (2) σ19) fun v23 σ23 =>
    am_bd (g_Cu_number 9 (2) σ23) fun v29 σ29 =>
    am_bd (g_Cu_number 9 (2) (am_fi σ29 2 8 v29.toInt32)) fun v36 σ36 =>
    if (lg_cmp v23 64) = 0 then
      if (σ36.1.1 2 8) < 1 then
        g_Se_readHead_143 (am_fi σ36 2 10 v36.toInt32)
      else
        if 24 < (σ36.1.1 2 8) then
          g_Se_readHead_143 (am_fi σ36 2 10 v36.toInt32)
        else
          if v36.toInt32 < (σ36.1.1 2 8) then
            if (lg_cmp v13 0) < 0 then
              g_Se_readHead_166 (am_fi σ36 2 10 v36.toInt32)
            else
              if 0 < (lg_cmp v13 ((x1 - (64 * (σ36.1.1 2 8))).toInt64)) then
                g_Se_readHead_166 (am_fi σ36 2 10 v36.toInt32)
              else
                some (1, am_fi (am_fi σ36 2 10 v36.toInt32) 2 9 v13.toInt32)
          else
            g_Se_readHead_143 (am_fi σ36 2 10 v36.toInt32)
    else
      g_Se_readHead_143 (am_fi σ36 2 10 v36.toInt32)
set_option maxHeartbeats 4000000 in
theorem t_Se_readHead_10 : ∀ (n : Nat) {x1 : Int32} {x2 : Int32} {σ σ' : am_S} {r : Int32} (h : g_Se_readHead_10 n x1 x2 σ = some (r, σ')), am_A S_c M_Se_readHead (10, [some (.ref 2), some (.int x1), some (.int x2), none, none, none], [], σ) (am_r S_c (fun q τ => q = some (.int r) ∧ τ = σ')) := by
  intro n
  induction n with
  | zero =>
    intro x1 x2 σ σ' r h
    cases h
  | succ n ih =>
  intro x1 x2 σ σ' r h
  unfold g_Se_readHead_10 at h
  refine a_iload_n i_Se_readHead_10 rfl ?_
  refine a_sta i_Se_readHead_11 ?_
  refine a_len i_Se_readHead_14 rfl rfl ?_
  by_cases c4 : x2 < (Int32.ofNat 7)
  · rw [if_pos c4] at h
    refine a_icf i_Se_readHead_15 (Int32.not_le.mpr c4) ?_
    refine a_aload_n i_Se_readHead_18 rfl ?_
    refine a_get (v := .ref 1) i_Se_readHead_19 rfl rfl ?_
    refine a_iload_n i_Se_readHead_22 rfl ?_
    obtain ⟨c8, h⟩ := gd_some h
    refine a_bal (n := 3000) i_Se_readHead_23 rfl rfl (inb_in c8) ?_
    refine a_sta i_Se_readHead_24 ?_
    refine a_iload_n i_Se_readHead_27 rfl ?_
    obtain ⟨c11, h⟩ := gd_some h
    refine a_ials (n := 7) i_Se_readHead_28 (by decide) rfl rfl (inb_in c11) ?_
    by_cases c12 : (σ.2.1 1 x2.toNatClampNeg) = (am_cs S_c 65 x2.toNatClampNeg)
    · rw [if_pos c12] at h
      refine a_ict i_Se_readHead_29 c12 ?_
      refine a_iinc i_Se_readHead_34 rfl rfl ?_
      refine a_goto i_Se_readHead_37 ?_
      exact ih h
    · rw [if_neg c12] at h
      refine a_icf i_Se_readHead_29 c12 ?_
      refine a_iconst i_Se_readHead_32 ?_
      exact am_ret_z ok_Se_readHead rfl rfl (Or.inl rfl) (am_lf_i h)
  · rw [if_neg c4] at h
    refine a_ict i_Se_readHead_15 (Int32.not_lt.mp c4) ?_
    refine a_aload_n i_Se_readHead_40 rfl ?_
    refine a_get (v := .ref 9) i_Se_readHead_41 rfl rfl ?_
    refine a_bipush i_Se_readHead_44 ?_
    refine a_iload_n i_Se_readHead_46 rfl ?_
    obtain ⟨v9, σ9, e9, h⟩ := am_bd_some h
    refine am_cvd (rest := []) [.int 40, .int x1] c_Se_readHead_47 ⟨by decide, _, rfl⟩ rfl (Nat.le_of_ble_eq_true rfl) (t_Cu_set cu_9 e9) ?_
    refine a_aload_n i_Se_readHead_50 rfl ?_
    refine a_get (v := .ref 9) i_Se_readHead_51 rfl rfl ?_
    refine a_bipush i_Se_readHead_54 ?_
    obtain ⟨v13, σ13, e13, h⟩ := am_bd_some h
    refine am_cvd (rest := []) [.int 8] c_Se_readHead_56 ⟨by decide, _, rfl⟩ rfl (Nat.le_of_ble_eq_true rfl) (t_Cu_number cu_9 e13) ?_
    refine a_lstore_n i_Se_readHead_59 rfl ?_
    refine a_aload_n i_Se_readHead_60 rfl ?_
    refine a_get (v := .ref 9) i_Se_readHead_61 rfl rfl ?_
    refine a_bipush i_Se_readHead_64 ?_
    refine a_iload_n i_Se_readHead_66 rfl ?_
    obtain ⟨v19, σ19, e19, h⟩ := am_bd_some h
    refine am_cvd (rest := []) [.int 58, .int x1] c_Se_readHead_67 ⟨by decide, _, rfl⟩ rfl (Nat.le_of_ble_eq_true rfl) (t_Cu_set cu_9 e19) ?_
    refine a_aload_n i_Se_readHead_70 rfl ?_
    refine a_get (v := .ref 9) i_Se_readHead_71 rfl rfl ?_
    refine a_iconst i_Se_readHead_74 ?_
    obtain ⟨v23, σ23, e23, h⟩ := am_bd_some h
    refine am_cvd (rest := []) [.int 2] c_Se_readHead_75 ⟨by decide, _, rfl⟩ rfl (Nat.le_of_ble_eq_true rfl) (t_Cu_number cu_9 e23) ?_
    refine a_lstore i_Se_readHead_78 rfl ?_
    refine a_aload_n i_Se_readHead_80 rfl ?_
    refine a_aload_n i_Se_readHead_81 rfl ?_
    refine a_get (v := .ref 9) i_Se_readHead_82 rfl rfl ?_
    refine a_iconst i_Se_readHead_85 ?_
    obtain ⟨v29, σ29, e29, h⟩ := am_bd_some h
    refine am_cvd (rest := [.ref 2]) [.int 2] c_Se_readHead_86 ⟨by decide, _, rfl⟩ rfl (Nat.le_of_ble_eq_true rfl) (t_Cu_number cu_9 e29) ?_
    refine a_l2i i_Se_readHead_89 ?_
    refine a_puti i_Se_readHead_90 rfl trivial ?_
    refine a_aload_n i_Se_readHead_93 rfl ?_
    refine a_aload_n i_Se_readHead_94 rfl ?_
    refine a_get (v := .ref 9) i_Se_readHead_95 rfl rfl ?_
    refine a_iconst i_Se_readHead_98 ?_
    obtain ⟨v36, σ36, e36, h⟩ := am_bd_some h
    refine am_cvd (rest := [.ref 2]) [.int 2] c_Se_readHead_99 ⟨by decide, _, rfl⟩ rfl (Nat.le_of_ble_eq_true rfl) (t_Cu_number cu_9 e36) ?_
    refine a_l2i i_Se_readHead_102 ?_
    refine a_puti i_Se_readHead_103 rfl trivial ?_
    refine a_lload i_Se_readHead_106 rfl ?_
    refine a_ldc2 i_Se_readHead_108 ?_
    refine a_lcmp i_Se_readHead_111 ?_
    by_cases c42 : (lg_cmp v23 64) = 0
    · rw [if_pos c42] at h
      refine a_iff i_Se_readHead_112 c42 ?_
      refine a_aload_n i_Se_readHead_115 rfl ?_
      refine a_get (v := .int (σ36.1.1 2 8)) i_Se_readHead_116 rfl rfl ?_
      refine a_iconst i_Se_readHead_119 ?_
      by_cases c46 : (σ36.1.1 2 8) < 1
      · rw [if_pos c46] at h
        refine a_ict i_Se_readHead_120 c46 ?_
        exact am_wk (t_Se_readHead_143 h) ⟨Or.inl rfl, Or.inl rfl, Or.inl rfl, Or.inl rfl, Or.inl rfl, Or.inl rfl, trivial⟩
      · rw [if_neg c46] at h
        refine a_icf i_Se_readHead_120 c46 ?_
        refine a_aload_n i_Se_readHead_123 rfl ?_
        refine a_get (v := .int (σ36.1.1 2 8)) i_Se_readHead_124 rfl rfl ?_
        refine a_bipush i_Se_readHead_127 ?_
        by_cases c50 : 24 < (σ36.1.1 2 8)
        · rw [if_pos c50] at h
          refine a_ict i_Se_readHead_129 c50 ?_
          exact am_wk (t_Se_readHead_143 h) ⟨Or.inl rfl, Or.inl rfl, Or.inl rfl, Or.inl rfl, Or.inl rfl, Or.inl rfl, trivial⟩
        · rw [if_neg c50] at h
          refine a_icf i_Se_readHead_129 c50 ?_
          refine a_aload_n i_Se_readHead_132 rfl ?_
          refine a_get (v := .int v36.toInt32) i_Se_readHead_133 rfl rfl ?_
          refine a_aload_n i_Se_readHead_136 rfl ?_
          refine a_get (v := .int (σ36.1.1 2 8)) i_Se_readHead_137 rfl rfl ?_
          by_cases c55 : v36.toInt32 < (σ36.1.1 2 8)
          · rw [if_pos c55] at h
            refine a_ict i_Se_readHead_140 c55 ?_
            refine a_lload_n i_Se_readHead_145 rfl ?_
            refine a_lconst i_Se_readHead_146 ?_
            refine a_lcmp i_Se_readHead_147 ?_
            by_cases c59 : (lg_cmp v13 0) < 0
            · rw [if_pos c59] at h
              refine a_ift i_Se_readHead_148 c59 ?_
              exact am_wk (t_Se_readHead_166 h) ⟨Or.inl rfl, Or.inl rfl, Or.inl rfl, Or.inl rfl, Or.inl rfl, Or.inl rfl, trivial⟩
            · rw [if_neg c59] at h
              refine a_iff i_Se_readHead_148 c59 ?_
              refine a_lload_n i_Se_readHead_151 rfl ?_
              refine a_iload_n i_Se_readHead_152 rfl ?_
              refine a_bipush i_Se_readHead_153 ?_
              refine a_aload_n i_Se_readHead_155 rfl ?_
              refine a_get (v := .int (σ36.1.1 2 8)) i_Se_readHead_156 rfl rfl ?_
              refine a_imul i_Se_readHead_159 ?_
              refine a_isub i_Se_readHead_160 ?_
              refine a_i2l i_Se_readHead_161 ?_
              refine a_lcmp i_Se_readHead_162 ?_
              by_cases c69 : 0 < (lg_cmp v13 ((x1 - (64 * (σ36.1.1 2 8))).toInt64))
              · rw [if_pos c69] at h
                refine a_iff i_Se_readHead_163 (Int32.not_le.mpr c69) ?_
                exact am_wk (t_Se_readHead_166 h) ⟨Or.inl rfl, Or.inl rfl, Or.inl rfl, Or.inl rfl, Or.inl rfl, Or.inl rfl, trivial⟩
              · rw [if_neg c69] at h
                refine a_ift i_Se_readHead_163 (Int32.not_lt.mp c69) ?_
                refine a_aload_n i_Se_readHead_168 rfl ?_
                refine a_lload_n i_Se_readHead_169 rfl ?_
                refine a_l2i i_Se_readHead_170 ?_
                refine a_puti i_Se_readHead_171 rfl trivial ?_
                refine a_iconst i_Se_readHead_174 ?_
                exact am_ret_z ok_Se_readHead rfl rfl (Or.inr rfl) (am_lf_i h)
          · rw [if_neg c55] at h
            refine a_icf i_Se_readHead_140 c55 ?_
            exact am_wk (t_Se_readHead_143 h) ⟨Or.inl rfl, Or.inl rfl, Or.inl rfl, Or.inl rfl, Or.inl rfl, Or.inl rfl, trivial⟩
    · rw [if_neg c42] at h
      refine a_ift i_Se_readHead_112 c42 ?_
      exact am_wk (t_Se_readHead_143 h) ⟨Or.inl rfl, Or.inl rfl, Or.inl rfl, Or.inl rfl, Or.inl rfl, Or.inl rfl, trivial⟩
def g_Se_readHead (x1 : Int32) (σ : am_S) : Option (Int32 × am_S) :=
  if x1 < 64 then
    some (0, σ)
  else
    g_Se_readHead_10 4000 x1 (0) σ
set_option maxHeartbeats 4000000 in
theorem t_Se_readHead_0 {x1 : Int32} {σ σ' : am_S} {r : Int32} (h : g_Se_readHead x1 σ = some (r, σ')) : am_A S_c M_Se_readHead (0, [some (.ref 2), some (.int x1), none, none, none, none], [], σ) (am_r S_c (fun q τ => q = some (.int r) ∧ τ = σ')) := by
  unfold g_Se_readHead at h
  refine a_iload_n i_Se_readHead_0 rfl ?_
  refine a_bipush i_Se_readHead_1 ?_
  by_cases c3 : x1 < 64
  · rw [if_pos c3] at h
    refine a_icf i_Se_readHead_3 (Int32.not_le.mpr c3) ?_
    refine a_iconst i_Se_readHead_6 ?_
    exact am_ret_z ok_Se_readHead rfl rfl (Or.inl rfl) (am_lf_i h)
  · rw [if_neg c3] at h
    refine a_ict i_Se_readHead_3 (Int32.not_lt.mp c3) ?_
    refine a_iconst i_Se_readHead_8 ?_
    refine a_istore_n i_Se_readHead_9 rfl ?_
    exact t_Se_readHead_10 4000 h
theorem t_Se_readHead {x1 : Int32} {σ σ' : am_S} {r : Int32} (h : g_Se_readHead x1 σ = some (r, σ')) : am_Mt S_c M_Se_readHead [.ref 2, .int x1] σ (fun q τ => q = some (.int r) ∧ τ = σ') :=
  am_M_of ok_Se_readHead (Nat.le_of_ble_eq_true rfl) (t_Se_readHead_0 h)
def g_Se_readHeader_129 (σ : am_S) : Option (Int32 × am_S) :=
  some (0, σ)
set_option maxHeartbeats 4000000 in
theorem t_Se_readHeader_129 {σ σ' : am_S} {r : Int32} (h : g_Se_readHeader_129 σ = some (r, σ')) : am_A S_c M_Se_readHeader (129, [none, none, none, none, none, none, none, none, none], [], σ) (am_r S_c (fun q τ => q = some (.int r) ∧ τ = σ')) := by
  unfold g_Se_readHeader_129 at h
  refine a_iconst i_Se_readHeader_129 ?_
  exact am_ret_z ok_Se_readHeader rfl rfl (Or.inl rfl) (am_lf_i h)
def g_Se_readHeader (x1 : Int32) (x2 : Int32) (σ : am_S) : Option (Int32 × am_S) :=
  am_bd (g_Cu_set 9 ((σ.1.1 2 9) + (64 * x1)) x2 σ) fun _ σ10 =>
  am_bd (g_Cu_number 9 (4) σ10) fun v17 σ17 =>
  am_gd (inb x1 24) <|
  am_bd (g_Cu_number 9 (4) (am_al σ17 5 x1.toNatClampNeg v17)) fun v22 σ22 =>
  am_bd (g_Cu_skip 9 (16) σ22) fun _ σ27 =>
  am_bd (g_Cu_number 9 (8) σ27) fun v31 σ31 =>
  am_bd (g_Cu_number 9 (8) σ31) fun v36 σ36 =>
  if (lg_cmp v22 8) = 0 then
    am_gd (inb x1 24) <|
    am_gd (inb x1 24) <|
    some (1, am_ai (am_ai σ36 3 x1.toNatClampNeg 0) 4 x1.toNatClampNeg 0)
  else
    if (lg_cmp v31 0) < 0 then
      g_Se_readHeader_129 σ36
    else
      if 0 < (lg_cmp v31 x2.toInt64) then
        g_Se_readHeader_129 σ36
      else
        if (lg_cmp v36 0) < 0 then
          g_Se_readHeader_129 σ36
        else
          if 0 < (lg_cmp v36 (x2.toInt64 - v31)) then
            g_Se_readHeader_129 σ36
          else
            am_gd (inb x1 24) <|
            am_gd (inb x1 24) <|
            some (1, am_ai (am_ai σ36 3 x1.toNatClampNeg v31.toInt32) 4 x1.toNatClampNeg ((v31 + v36).toInt32))
set_option maxHeartbeats 4000000 in
theorem t_Se_readHeader_0 {x1 : Int32} {x2 : Int32} {σ σ' : am_S} {r : Int32} (h : g_Se_readHeader x1 x2 σ = some (r, σ')) : am_A S_c M_Se_readHeader (0, [some (.ref 2), some (.int x1), some (.int x2), none, none, none, none, none, none], [], σ) (am_r S_c (fun q τ => q = some (.int r) ∧ τ = σ')) := by
  unfold g_Se_readHeader at h
  refine a_aload_n i_Se_readHeader_0 rfl ?_
  refine a_get (v := .ref 9) i_Se_readHeader_1 rfl rfl ?_
  refine a_aload_n i_Se_readHeader_4 rfl ?_
  refine a_get (v := .int (σ.1.1 2 9)) i_Se_readHeader_5 rfl rfl ?_
  refine a_bipush i_Se_readHeader_8 ?_
  refine a_iload_n i_Se_readHeader_10 rfl ?_
  refine a_imul i_Se_readHeader_11 ?_
  refine a_iadd i_Se_readHeader_12 ?_
  refine a_iload_n i_Se_readHeader_13 rfl ?_
  obtain ⟨v10, σ10, e10, h⟩ := am_bd_some h
  refine am_cvd (rest := []) [.int ((σ.1.1 2 9) + (64 * x1)), .int x2] c_Se_readHeader_14 ⟨by decide, _, rfl⟩ rfl (Nat.le_of_ble_eq_true rfl) (t_Cu_set cu_9 e10) ?_
  refine a_aload_n i_Se_readHeader_17 rfl ?_
  refine a_get (v := .ref 5) i_Se_readHeader_18 rfl rfl ?_
  refine a_iload_n i_Se_readHeader_21 rfl ?_
  refine a_aload_n i_Se_readHeader_22 rfl ?_
  refine a_get (v := .ref 9) i_Se_readHeader_23 rfl rfl ?_
  refine a_iconst i_Se_readHeader_26 ?_
  obtain ⟨v17, σ17, e17, h⟩ := am_bd_some h
  refine am_cvd (rest := [.int x1, .ref 5]) [.int 4] c_Se_readHeader_27 ⟨by decide, _, rfl⟩ rfl (Nat.le_of_ble_eq_true rfl) (t_Cu_number cu_9 e17) ?_
  obtain ⟨c18, h⟩ := gd_some h
  refine a_las (n := 24) i_Se_readHeader_30 rfl rfl (inb_in c18) ?_
  refine a_aload_n i_Se_readHeader_31 rfl ?_
  refine a_get (v := .ref 9) i_Se_readHeader_32 rfl rfl ?_
  refine a_iconst i_Se_readHeader_35 ?_
  obtain ⟨v22, σ22, e22, h⟩ := am_bd_some h
  refine am_cvd (rest := []) [.int 4] c_Se_readHeader_36 ⟨by decide, _, rfl⟩ rfl (Nat.le_of_ble_eq_true rfl) (t_Cu_number cu_9 e22) ?_
  refine a_lstore_n i_Se_readHeader_39 rfl ?_
  refine a_aload_n i_Se_readHeader_40 rfl ?_
  refine a_get (v := .ref 9) i_Se_readHeader_41 rfl rfl ?_
  refine a_ldc2 i_Se_readHeader_44 ?_
  obtain ⟨v27, σ27, e27, h⟩ := am_bd_some h
  refine am_cvd (rest := []) [.long 16] c_Se_readHeader_47 ⟨by decide, _, rfl⟩ rfl (Nat.le_of_ble_eq_true rfl) (t_Cu_skip cu_9 e27) ?_
  refine a_aload_n i_Se_readHeader_50 rfl ?_
  refine a_get (v := .ref 9) i_Se_readHeader_51 rfl rfl ?_
  refine a_bipush i_Se_readHeader_54 ?_
  obtain ⟨v31, σ31, e31, h⟩ := am_bd_some h
  refine am_cvd (rest := []) [.int 8] c_Se_readHeader_56 ⟨by decide, _, rfl⟩ rfl (Nat.le_of_ble_eq_true rfl) (t_Cu_number cu_9 e31) ?_
  refine a_lstore i_Se_readHeader_59 rfl ?_
  refine a_aload_n i_Se_readHeader_61 rfl ?_
  refine a_get (v := .ref 9) i_Se_readHeader_62 rfl rfl ?_
  refine a_bipush i_Se_readHeader_65 ?_
  obtain ⟨v36, σ36, e36, h⟩ := am_bd_some h
  refine am_cvd (rest := []) [.int 8] c_Se_readHeader_67 ⟨by decide, _, rfl⟩ rfl (Nat.le_of_ble_eq_true rfl) (t_Cu_number cu_9 e36) ?_
  refine a_lstore i_Se_readHeader_70 rfl ?_
  refine a_lload_n i_Se_readHeader_72 rfl ?_
  refine a_ldc2 i_Se_readHeader_73 ?_
  refine a_lcmp i_Se_readHeader_76 ?_
  by_cases c41 : (lg_cmp v22 8) = 0
  · rw [if_pos c41] at h
    refine a_iff i_Se_readHeader_77 c41 ?_
    refine a_aload_n i_Se_readHeader_80 rfl ?_
    refine a_get (v := .ref 3) i_Se_readHeader_81 rfl rfl ?_
    refine a_iload_n i_Se_readHeader_84 rfl ?_
    refine a_iconst i_Se_readHeader_85 ?_
    obtain ⟨c46, h⟩ := gd_some h
    refine a_ias (n := 24) i_Se_readHeader_86 rfl rfl (inb_in c46) ?_
    refine a_aload_n i_Se_readHeader_87 rfl ?_
    refine a_get (v := .ref 4) i_Se_readHeader_88 rfl rfl ?_
    refine a_iload_n i_Se_readHeader_91 rfl ?_
    refine a_iconst i_Se_readHeader_92 ?_
    obtain ⟨c51, h⟩ := gd_some h
    refine a_ias (n := 24) i_Se_readHeader_93 rfl rfl (inb_in c51) ?_
    refine a_iconst i_Se_readHeader_94 ?_
    exact am_ret_z ok_Se_readHeader rfl rfl (Or.inr rfl) (am_lf_i h)
  · rw [if_neg c41] at h
    refine a_ift i_Se_readHeader_77 c41 ?_
    refine a_lload i_Se_readHeader_96 rfl ?_
    refine a_lconst i_Se_readHeader_98 ?_
    refine a_lcmp i_Se_readHeader_99 ?_
    by_cases c45 : (lg_cmp v31 0) < 0
    · rw [if_pos c45] at h
      refine a_ift i_Se_readHeader_100 c45 ?_
      exact am_wk (t_Se_readHeader_129 h) ⟨Or.inl rfl, Or.inl rfl, Or.inl rfl, Or.inl rfl, Or.inl rfl, Or.inl rfl, Or.inl rfl, Or.inl rfl, Or.inl rfl, trivial⟩
    · rw [if_neg c45] at h
      refine a_iff i_Se_readHeader_100 c45 ?_
      refine a_lload i_Se_readHeader_103 rfl ?_
      refine a_iload_n i_Se_readHeader_105 rfl ?_
      refine a_i2l i_Se_readHeader_106 ?_
      refine a_lcmp i_Se_readHeader_107 ?_
      by_cases c50 : 0 < (lg_cmp v31 x2.toInt64)
      · rw [if_pos c50] at h
        refine a_ift i_Se_readHeader_108 c50 ?_
        exact am_wk (t_Se_readHeader_129 h) ⟨Or.inl rfl, Or.inl rfl, Or.inl rfl, Or.inl rfl, Or.inl rfl, Or.inl rfl, Or.inl rfl, Or.inl rfl, Or.inl rfl, trivial⟩
      · rw [if_neg c50] at h
        refine a_iff i_Se_readHeader_108 c50 ?_
        refine a_lload i_Se_readHeader_111 rfl ?_
        refine a_lconst i_Se_readHeader_113 ?_
        refine a_lcmp i_Se_readHeader_114 ?_
        by_cases c54 : (lg_cmp v36 0) < 0
        · rw [if_pos c54] at h
          refine a_ift i_Se_readHeader_115 c54 ?_
          exact am_wk (t_Se_readHeader_129 h) ⟨Or.inl rfl, Or.inl rfl, Or.inl rfl, Or.inl rfl, Or.inl rfl, Or.inl rfl, Or.inl rfl, Or.inl rfl, Or.inl rfl, trivial⟩
        · rw [if_neg c54] at h
          refine a_iff i_Se_readHeader_115 c54 ?_
          refine a_lload i_Se_readHeader_118 rfl ?_
          refine a_iload_n i_Se_readHeader_120 rfl ?_
          refine a_i2l i_Se_readHeader_121 ?_
          refine a_lload i_Se_readHeader_122 rfl ?_
          refine a_lsub i_Se_readHeader_124 ?_
          refine a_lcmp i_Se_readHeader_125 ?_
          by_cases c61 : 0 < (lg_cmp v36 (x2.toInt64 - v31))
          · rw [if_pos c61] at h
            refine a_iff i_Se_readHeader_126 (Int32.not_le.mpr c61) ?_
            exact am_wk (t_Se_readHeader_129 h) ⟨Or.inl rfl, Or.inl rfl, Or.inl rfl, Or.inl rfl, Or.inl rfl, Or.inl rfl, Or.inl rfl, Or.inl rfl, Or.inl rfl, trivial⟩
          · rw [if_neg c61] at h
            refine a_ift i_Se_readHeader_126 (Int32.not_lt.mp c61) ?_
            refine a_aload_n i_Se_readHeader_131 rfl ?_
            refine a_get (v := .ref 3) i_Se_readHeader_132 rfl rfl ?_
            refine a_iload_n i_Se_readHeader_135 rfl ?_
            refine a_lload i_Se_readHeader_136 rfl ?_
            refine a_l2i i_Se_readHeader_138 ?_
            obtain ⟨c67, h⟩ := gd_some h
            refine a_ias (n := 24) i_Se_readHeader_139 rfl rfl (inb_in c67) ?_
            refine a_aload_n i_Se_readHeader_140 rfl ?_
            refine a_get (v := .ref 4) i_Se_readHeader_141 rfl rfl ?_
            refine a_iload_n i_Se_readHeader_144 rfl ?_
            refine a_lload i_Se_readHeader_145 rfl ?_
            refine a_lload i_Se_readHeader_147 rfl ?_
            refine a_ladd i_Se_readHeader_149 ?_
            refine a_l2i i_Se_readHeader_150 ?_
            obtain ⟨c75, h⟩ := gd_some h
            refine a_ias (n := 24) i_Se_readHeader_151 rfl rfl (inb_in c75) ?_
            refine a_iconst i_Se_readHeader_152 ?_
            exact am_ret_z ok_Se_readHeader rfl rfl (Or.inr rfl) (am_lf_i h)
theorem t_Se_readHeader {x1 : Int32} {x2 : Int32} {σ σ' : am_S} {r : Int32} (h : g_Se_readHeader x1 x2 σ = some (r, σ')) : am_Mt S_c M_Se_readHeader [.ref 2, .int x1, .int x2] σ (fun q τ => q = some (.int r) ∧ τ = σ') :=
  am_M_of ok_Se_readHeader (Nat.le_of_ble_eq_true rfl) (t_Se_readHeader_0 h)
def g_En_forgetAll (σ : am_S) : Option (Unit × am_S) :=
  some ((), am_fi (am_fi σ 10 10 0) 10 11 0)
set_option maxHeartbeats 4000000 in
theorem t_En_forgetAll_0 {σ σ' : am_S} {r : Unit} (h : g_En_forgetAll σ = some (r, σ')) : am_A S_c M_En_forgetAll (0, [some (.ref 10)], [], σ) (am_r S_c (fun q τ => q = none ∧ τ = σ')) := by
  unfold g_En_forgetAll at h
  refine a_aload_n i_En_forgetAll_0 rfl ?_
  refine a_iconst i_En_forgetAll_1 ?_
  refine a_puti i_En_forgetAll_2 rfl trivial ?_
  refine a_aload_n i_En_forgetAll_5 rfl ?_
  refine a_iconst i_En_forgetAll_6 ?_
  refine a_puti i_En_forgetAll_7 rfl trivial ?_
  exact am_ret_v ok_En_forgetAll rfl rfl (am_lf_v h)
theorem t_En_forgetAll {σ σ' : am_S} {r : Unit} (h : g_En_forgetAll σ = some (r, σ')) : am_Mt S_c M_En_forgetAll [.ref 10] σ (fun q τ => q = none ∧ τ = σ') :=
  am_M_of ok_En_forgetAll (Nat.le_of_ble_eq_true rfl) (t_En_forgetAll_0 h)
def g_En_addUnit_25 : Nat → Int32 → am_S → Option (Unit × am_S)
  | 0, _, _ => none
  | n + 1, x2, σ =>
  if x2 < 4 then
    am_gd (inb (((σ.1.1 10 11) * 4) + x2) 16) <|
    am_gd (inb (((σ.1.1 10 11) * 4) + x2) 16) <|
    g_En_addUnit_25 n (x2 + 1) (am_al (am_ai σ 19 (((σ.1.1 10 11) * 4) + x2).toNatClampNeg 0) 20 (((σ.1.1 10 11) * 4) + x2).toNatClampNeg 0)
  else
    some ((), am_fi σ 10 11 ((σ.1.1 10 11) + 1))
set_option maxHeartbeats 4000000 in
theorem t_En_addUnit_25 : ∀ (n : Nat) {x2 : Int32} {σ σ' : am_S} {r : Unit} (h : g_En_addUnit_25 n x2 σ = some (r, σ')), am_A S_c M_En_addUnit (25, [some (.ref 10), none, some (.int x2)], [], σ) (am_r S_c (fun q τ => q = none ∧ τ = σ')) := by
  intro n
  induction n with
  | zero =>
    intro x2 σ σ' r h
    cases h
  | succ n ih =>
  intro x2 σ σ' r h
  unfold g_En_addUnit_25 at h
  refine a_iload_n i_En_addUnit_25 rfl ?_
  refine a_iconst i_En_addUnit_26 ?_
  by_cases c3 : x2 < 4
  · rw [if_pos c3] at h
    refine a_icf i_En_addUnit_27 (Int32.not_le.mpr c3) ?_
    refine a_aload_n i_En_addUnit_30 rfl ?_
    refine a_get (v := .ref 19) i_En_addUnit_31 rfl rfl ?_
    refine a_aload_n i_En_addUnit_34 rfl ?_
    refine a_get (v := .int (σ.1.1 10 11)) i_En_addUnit_35 rfl rfl ?_
    refine a_iconst i_En_addUnit_38 ?_
    refine a_imul i_En_addUnit_39 ?_
    refine a_iload_n i_En_addUnit_40 rfl ?_
    refine a_iadd i_En_addUnit_41 ?_
    refine a_iconst i_En_addUnit_42 ?_
    obtain ⟨c13, h⟩ := gd_some h
    refine a_ias (n := 16) i_En_addUnit_43 rfl rfl (inb_in c13) ?_
    refine a_aload_n i_En_addUnit_44 rfl ?_
    refine a_get (v := .ref 20) i_En_addUnit_45 rfl rfl ?_
    refine a_aload_n i_En_addUnit_48 rfl ?_
    refine a_get (v := .int (σ.1.1 10 11)) i_En_addUnit_49 rfl rfl ?_
    refine a_iconst i_En_addUnit_52 ?_
    refine a_imul i_En_addUnit_53 ?_
    refine a_iload_n i_En_addUnit_54 rfl ?_
    refine a_iadd i_En_addUnit_55 ?_
    refine a_lconst i_En_addUnit_56 ?_
    obtain ⟨c23, h⟩ := gd_some h
    refine a_las (n := 16) i_En_addUnit_57 rfl rfl (inb_in c23) ?_
    refine a_iinc i_En_addUnit_58 rfl rfl ?_
    refine a_goto i_En_addUnit_61 ?_
    exact ih h
  · rw [if_neg c3] at h
    refine a_ict i_En_addUnit_27 (Int32.not_lt.mp c3) ?_
    refine a_aload_n i_En_addUnit_64 rfl ?_
    refine a_dup_a i_En_addUnit_65 ?_
    refine a_get (v := .int (σ.1.1 10 11)) i_En_addUnit_66 rfl rfl ?_
    refine a_iconst i_En_addUnit_69 ?_
    refine a_iadd i_En_addUnit_70 ?_
    refine a_puti i_En_addUnit_71 rfl trivial ?_
    exact am_ret_v ok_En_addUnit rfl rfl (am_lf_v h)
def g_En_addUnit (x1 : Int32) (σ : am_S) : Option (Unit × am_S) :=
  am_gd (inb (σ.1.1 10 11) 4) <|
  am_gd (inb (σ.1.1 10 11) 4) <|
  g_En_addUnit_25 4000 (0) (am_ai (am_ai σ 17 (σ.1.1 10 11).toNatClampNeg x1) 18 (σ.1.1 10 11).toNatClampNeg (σ.1.1 10 10))
set_option maxHeartbeats 4000000 in
theorem t_En_addUnit_0 {x1 : Int32} {σ σ' : am_S} {r : Unit} (h : g_En_addUnit x1 σ = some (r, σ')) : am_A S_c M_En_addUnit (0, [some (.ref 10), some (.int x1), none], [], σ) (am_r S_c (fun q τ => q = none ∧ τ = σ')) := by
  unfold g_En_addUnit at h
  refine a_aload_n i_En_addUnit_0 rfl ?_
  refine a_get (v := .ref 17) i_En_addUnit_1 rfl rfl ?_
  refine a_aload_n i_En_addUnit_4 rfl ?_
  refine a_get (v := .int (σ.1.1 10 11)) i_En_addUnit_5 rfl rfl ?_
  refine a_iload_n i_En_addUnit_8 rfl ?_
  obtain ⟨c6, h⟩ := gd_some h
  refine a_ias (n := 4) i_En_addUnit_9 rfl rfl (inb_in c6) ?_
  refine a_aload_n i_En_addUnit_10 rfl ?_
  refine a_get (v := .ref 18) i_En_addUnit_11 rfl rfl ?_
  refine a_aload_n i_En_addUnit_14 rfl ?_
  refine a_get (v := .int (σ.1.1 10 11)) i_En_addUnit_15 rfl rfl ?_
  refine a_aload_n i_En_addUnit_18 rfl ?_
  refine a_get (v := .int (σ.1.1 10 10)) i_En_addUnit_19 rfl rfl ?_
  obtain ⟨c13, h⟩ := gd_some h
  refine a_ias (n := 4) i_En_addUnit_22 rfl rfl (inb_in c13) ?_
  refine a_iconst i_En_addUnit_23 ?_
  refine a_istore_n i_En_addUnit_24 rfl ?_
  exact am_wk (t_En_addUnit_25 4000 h) ⟨Or.inr rfl, Or.inl rfl, Or.inr rfl, trivial⟩
theorem t_En_addUnit {x1 : Int32} {σ σ' : am_S} {r : Unit} (h : g_En_addUnit x1 σ = some (r, σ')) : am_Mt S_c M_En_addUnit [.ref 10, .int x1] σ (fun q τ => q = none ∧ τ = σ') :=
  am_M_of ok_En_addUnit (Nat.le_of_ble_eq_true rfl) (t_En_addUnit_0 h)
def g_En_add_49 : Nat → Int32 → am_S → Option (Unit × am_S)
  | 0, _, _ => none
  | n + 1, x5, σ =>
  if x5 < 7 then
    am_gd (inb (((σ.1.1 10 10) * 7) + x5) 1400) <|
    g_En_add_49 n (x5 + 1) (am_ai σ 15 (((σ.1.1 10 10) * 7) + x5).toNatClampNeg 0)
  else
    some ((), am_fi σ 10 10 ((σ.1.1 10 10) + 1))
set_option maxHeartbeats 4000000 in
theorem t_En_add_49 : ∀ (n : Nat) {x5 : Int32} {σ σ' : am_S} {r : Unit} (h : g_En_add_49 n x5 σ = some (r, σ')), am_A S_c M_En_add (49, [some (.ref 10), none, none, none, none, some (.int x5)], [], σ) (am_r S_c (fun q τ => q = none ∧ τ = σ')) := by
  intro n
  induction n with
  | zero =>
    intro x5 σ σ' r h
    cases h
  | succ n ih =>
  intro x5 σ σ' r h
  unfold g_En_add_49 at h
  refine a_iload i_En_add_49 rfl ?_
  refine a_bipush i_En_add_51 ?_
  by_cases c3 : x5 < 7
  · rw [if_pos c3] at h
    refine a_icf i_En_add_53 (Int32.not_le.mpr c3) ?_
    refine a_aload_n i_En_add_56 rfl ?_
    refine a_get (v := .ref 15) i_En_add_57 rfl rfl ?_
    refine a_aload_n i_En_add_60 rfl ?_
    refine a_get (v := .int (σ.1.1 10 10)) i_En_add_61 rfl rfl ?_
    refine a_bipush i_En_add_64 ?_
    refine a_imul i_En_add_66 ?_
    refine a_iload i_En_add_67 rfl ?_
    refine a_iadd i_En_add_69 ?_
    refine a_iconst i_En_add_70 ?_
    obtain ⟨c13, h⟩ := gd_some h
    refine a_ias (n := 1400) i_En_add_71 rfl rfl (inb_in c13) ?_
    refine a_iinc i_En_add_72 rfl rfl ?_
    refine a_goto i_En_add_75 ?_
    exact ih h
  · rw [if_neg c3] at h
    refine a_ict i_En_add_53 (Int32.not_lt.mp c3) ?_
    refine a_aload_n i_En_add_78 rfl ?_
    refine a_dup_a i_En_add_79 ?_
    refine a_get (v := .int (σ.1.1 10 10)) i_En_add_80 rfl rfl ?_
    refine a_iconst i_En_add_83 ?_
    refine a_iadd i_En_add_84 ?_
    refine a_puti i_En_add_85 rfl trivial ?_
    exact am_ret_v ok_En_add rfl rfl (am_lf_v h)
def g_En_add (x1 : Int64) (x3 : Int32) (x4 : Int32) (σ : am_S) : Option (Unit × am_S) :=
  am_gd (inb (σ.1.1 10 10) 200) <|
  am_gd (inb (σ.1.1 10 10) 200) <|
  am_gd (inb (σ.1.1 10 10) 200) <|
  am_gd (inb (σ.1.1 10 10) 200) <|
  g_En_add_49 4000 (0) (am_ai (am_ai (am_ai (am_al σ 11 (σ.1.1 10 10).toNatClampNeg x1) 12 (σ.1.1 10 10).toNatClampNeg x3) 13 (σ.1.1 10 10).toNatClampNeg ((σ.1.1 10 11) - 1)) 14 (σ.1.1 10 10).toNatClampNeg x4)
set_option maxHeartbeats 4000000 in
theorem t_En_add_0 {x1 : Int64} {x3 : Int32} {x4 : Int32} {σ σ' : am_S} {r : Unit} (h : g_En_add x1 x3 x4 σ = some (r, σ')) : am_A S_c M_En_add (0, [some (.ref 10), some (.long x1), none, some (.int x3), some (.int x4), none], [], σ) (am_r S_c (fun q τ => q = none ∧ τ = σ')) := by
  unfold g_En_add at h
  refine a_aload_n i_En_add_0 rfl ?_
  refine a_get (v := .ref 11) i_En_add_1 rfl rfl ?_
  refine a_aload_n i_En_add_4 rfl ?_
  refine a_get (v := .int (σ.1.1 10 10)) i_En_add_5 rfl rfl ?_
  refine a_lload_n i_En_add_8 rfl ?_
  obtain ⟨c6, h⟩ := gd_some h
  refine a_las (n := 200) i_En_add_9 rfl rfl (inb_in c6) ?_
  refine a_aload_n i_En_add_10 rfl ?_
  refine a_get (v := .ref 12) i_En_add_11 rfl rfl ?_
  refine a_aload_n i_En_add_14 rfl ?_
  refine a_get (v := .int (σ.1.1 10 10)) i_En_add_15 rfl rfl ?_
  refine a_iload_n i_En_add_18 rfl ?_
  obtain ⟨c12, h⟩ := gd_some h
  refine a_ias (n := 200) i_En_add_19 rfl rfl (inb_in c12) ?_
  refine a_aload_n i_En_add_20 rfl ?_
  refine a_get (v := .ref 13) i_En_add_21 rfl rfl ?_
  refine a_aload_n i_En_add_24 rfl ?_
  refine a_get (v := .int (σ.1.1 10 10)) i_En_add_25 rfl rfl ?_
  refine a_aload_n i_En_add_28 rfl ?_
  refine a_get (v := .int (σ.1.1 10 11)) i_En_add_29 rfl rfl ?_
  refine a_iconst i_En_add_32 ?_
  refine a_isub i_En_add_33 ?_
  obtain ⟨c21, h⟩ := gd_some h
  refine a_ias (n := 200) i_En_add_34 rfl rfl (inb_in c21) ?_
  refine a_aload_n i_En_add_35 rfl ?_
  refine a_get (v := .ref 14) i_En_add_36 rfl rfl ?_
  refine a_aload_n i_En_add_39 rfl ?_
  refine a_get (v := .int (σ.1.1 10 10)) i_En_add_40 rfl rfl ?_
  refine a_iload i_En_add_43 rfl ?_
  obtain ⟨c27, h⟩ := gd_some h
  refine a_ias (n := 200) i_En_add_45 rfl rfl (inb_in c27) ?_
  refine a_iconst i_En_add_46 ?_
  refine a_istore i_En_add_47 rfl ?_
  exact am_wk (t_En_add_49 4000 h) ⟨Or.inr rfl, Or.inl rfl, Or.inl rfl, Or.inl rfl, Or.inl rfl, Or.inr rfl, trivial⟩
theorem t_En_add {x1 : Int64} {x3 : Int32} {x4 : Int32} {σ σ' : am_S} {r : Unit} (h : g_En_add x1 x3 x4 σ = some (r, σ')) : am_Mt S_c M_En_add [.ref 10, .long x1, .int x3, .int x4] σ (fun q τ => q = none ∧ τ = σ') :=
  am_M_of ok_En_add (Nat.le_of_ble_eq_true rfl) (t_En_add_0 h)
def g_En_isLookedAt_57 (y0 : Int32) (σ : am_S) : Option (Int32 × am_S) :=
  am_gd (z01 y0) <|
  some (y0, σ)
set_option maxHeartbeats 4000000 in
theorem t_En_isLookedAt_57 {y0 : Int32} {σ σ' : am_S} {r : Int32} (h : g_En_isLookedAt_57 y0 σ = some (r, σ')) : am_A S_c M_En_isLookedAt (57, [none, none], [.int y0], σ) (am_r S_c (fun q τ => q = some (.int r) ∧ τ = σ')) := by
  unfold g_En_isLookedAt_57 at h
  obtain ⟨c1, h⟩ := gd_some h
  exact am_ret_z ok_En_isLookedAt rfl rfl (z01_or c1) (am_lf_i h)
def g_En_isLookedAt_52 (σ : am_S) : Option (Int32 × am_S) :=
  g_En_isLookedAt_57 (1) σ
set_option maxHeartbeats 4000000 in
theorem t_En_isLookedAt_52 {σ σ' : am_S} {r : Int32} (h : g_En_isLookedAt_52 σ = some (r, σ')) : am_A S_c M_En_isLookedAt (52, [none, none], [], σ) (am_r S_c (fun q τ => q = some (.int r) ∧ τ = σ')) := by
  unfold g_En_isLookedAt_52 at h
  refine a_iconst i_En_isLookedAt_52 ?_
  refine a_goto i_En_isLookedAt_53 ?_
  exact t_En_isLookedAt_57 h
def g_En_isLookedAt (x1 : Int32) (σ : am_S) : Option (Int32 × am_S) :=
  am_gd (inb x1 200) <|
  if (lg_cmp (σ.2.2 11 x1.toNatClampNeg) 17) = 0 then
    g_En_isLookedAt_52 σ
  else
    am_gd (inb x1 200) <|
    if (lg_cmp (σ.2.2 11 x1.toNatClampNeg) 46) = 0 then
      g_En_isLookedAt_52 σ
    else
      am_gd (inb x1 200) <|
      if (lg_cmp (σ.2.2 11 x1.toNatClampNeg) 29) = 0 then
        g_En_isLookedAt_52 σ
      else
        am_gd (inb x1 200) <|
        if (lg_cmp (σ.2.2 11 x1.toNatClampNeg) 11) = 0 then
          g_En_isLookedAt_52 σ
        else
          g_En_isLookedAt_57 (0) σ
set_option maxHeartbeats 4000000 in
theorem t_En_isLookedAt_0 {x1 : Int32} {σ σ' : am_S} {r : Int32} (h : g_En_isLookedAt x1 σ = some (r, σ')) : am_A S_c M_En_isLookedAt (0, [some (.ref 10), some (.int x1)], [], σ) (am_r S_c (fun q τ => q = some (.int r) ∧ τ = σ')) := by
  unfold g_En_isLookedAt at h
  refine a_aload_n i_En_isLookedAt_0 rfl ?_
  refine a_get (v := .ref 11) i_En_isLookedAt_1 rfl rfl ?_
  refine a_iload_n i_En_isLookedAt_4 rfl ?_
  obtain ⟨c4, h⟩ := gd_some h
  refine a_lal (n := 200) i_En_isLookedAt_5 rfl rfl (inb_in c4) ?_
  refine a_ldc2 i_En_isLookedAt_6 ?_
  refine a_lcmp i_En_isLookedAt_9 ?_
  by_cases c7 : (lg_cmp (σ.2.2 11 x1.toNatClampNeg) 17) = 0
  · rw [if_pos c7] at h
    refine a_ift i_En_isLookedAt_10 c7 ?_
    exact am_wk (t_En_isLookedAt_52 h) ⟨Or.inl rfl, Or.inl rfl, trivial⟩
  · rw [if_neg c7] at h
    refine a_iff i_En_isLookedAt_10 c7 ?_
    refine a_aload_n i_En_isLookedAt_13 rfl ?_
    refine a_get (v := .ref 11) i_En_isLookedAt_14 rfl rfl ?_
    refine a_iload_n i_En_isLookedAt_17 rfl ?_
    obtain ⟨c11, h⟩ := gd_some h
    refine a_lal (n := 200) i_En_isLookedAt_18 rfl rfl (inb_in c11) ?_
    refine a_ldc2 i_En_isLookedAt_19 ?_
    refine a_lcmp i_En_isLookedAt_22 ?_
    by_cases c14 : (lg_cmp (σ.2.2 11 x1.toNatClampNeg) 46) = 0
    · rw [if_pos c14] at h
      refine a_ift i_En_isLookedAt_23 c14 ?_
      exact am_wk (t_En_isLookedAt_52 h) ⟨Or.inl rfl, Or.inl rfl, trivial⟩
    · rw [if_neg c14] at h
      refine a_iff i_En_isLookedAt_23 c14 ?_
      refine a_aload_n i_En_isLookedAt_26 rfl ?_
      refine a_get (v := .ref 11) i_En_isLookedAt_27 rfl rfl ?_
      refine a_iload_n i_En_isLookedAt_30 rfl ?_
      obtain ⟨c18, h⟩ := gd_some h
      refine a_lal (n := 200) i_En_isLookedAt_31 rfl rfl (inb_in c18) ?_
      refine a_ldc2 i_En_isLookedAt_32 ?_
      refine a_lcmp i_En_isLookedAt_35 ?_
      by_cases c21 : (lg_cmp (σ.2.2 11 x1.toNatClampNeg) 29) = 0
      · rw [if_pos c21] at h
        refine a_ift i_En_isLookedAt_36 c21 ?_
        exact am_wk (t_En_isLookedAt_52 h) ⟨Or.inl rfl, Or.inl rfl, trivial⟩
      · rw [if_neg c21] at h
        refine a_iff i_En_isLookedAt_36 c21 ?_
        refine a_aload_n i_En_isLookedAt_39 rfl ?_
        refine a_get (v := .ref 11) i_En_isLookedAt_40 rfl rfl ?_
        refine a_iload_n i_En_isLookedAt_43 rfl ?_
        obtain ⟨c25, h⟩ := gd_some h
        refine a_lal (n := 200) i_En_isLookedAt_44 rfl rfl (inb_in c25) ?_
        refine a_ldc2 i_En_isLookedAt_45 ?_
        refine a_lcmp i_En_isLookedAt_48 ?_
        by_cases c28 : (lg_cmp (σ.2.2 11 x1.toNatClampNeg) 11) = 0
        · rw [if_pos c28] at h
          refine a_iff i_En_isLookedAt_49 c28 ?_
          exact am_wk (t_En_isLookedAt_52 h) ⟨Or.inl rfl, Or.inl rfl, trivial⟩
        · rw [if_neg c28] at h
          refine a_ift i_En_isLookedAt_49 c28 ?_
          refine a_iconst i_En_isLookedAt_56 ?_
          exact am_wk (t_En_isLookedAt_57 h) ⟨Or.inl rfl, Or.inl rfl, trivial⟩
theorem t_En_isLookedAt {x1 : Int32} {σ σ' : am_S} {r : Int32} (h : g_En_isLookedAt x1 σ = some (r, σ')) : am_Mt S_c M_En_isLookedAt [.ref 10, .int x1] σ (fun q τ => q = some (.int r) ∧ τ = σ') :=
  am_M_of ok_En_isLookedAt (Nat.le_of_ble_eq_true rfl) (t_En_isLookedAt_0 h)
def g_En_keepFirst_15_16_15 (σ : am_S) : Option (Unit × am_S) :=
  some ((), σ)
set_option maxHeartbeats 4000000 in
theorem t_En_keepFirst_15_16_15 {σ σ' : am_S} {r : Unit} (h : g_En_keepFirst_15_16_15 σ = some (r, σ')) : am_A S_c M_En_keepFirst (15, [none, none, none, none, none, none], [], σ) (am_r S_c (fun q τ => q = none ∧ τ = σ')) := by
  unfold g_En_keepFirst_15_16_15 at h
  exact am_ret_v ok_En_keepFirst rfl rfl (am_lf_v h)
def g_En_keepFirst_15_16 (x2 : Int32) (x3 : Int32) (x4 : Int64) (σ : am_S) : Option (Unit × am_S) :=
  am_gd (inb x2 1400) <|
  if (σ.2.1 15 x2.toNatClampNeg) = 0 then
    am_gd (inb x2 1400) <|
    am_gd (inb x2 1400) <|
    g_En_keepFirst_15_16_15 (am_al (am_ai σ 15 x2.toNatClampNeg x3) 16 x2.toNatClampNeg x4)
  else
    g_En_keepFirst_15_16_15 σ
set_option maxHeartbeats 4000000 in
theorem t_En_keepFirst_15_16_0 {x2 : Int32} {x3 : Int32} {x4 : Int64} {σ σ' : am_S} {r : Unit} (h : g_En_keepFirst_15_16 x2 x3 x4 σ = some (r, σ')) : am_A S_c M_En_keepFirst (0, [some (.ref 15), some (.ref 16), some (.int x2), some (.int x3), some (.long x4), none], [], σ) (am_r S_c (fun q τ => q = none ∧ τ = σ')) := by
  unfold g_En_keepFirst_15_16 at h
  refine a_aload_n i_En_keepFirst_0 rfl ?_
  refine a_iload_n i_En_keepFirst_1 rfl ?_
  obtain ⟨c3, h⟩ := gd_some h
  refine a_ial (n := 1400) i_En_keepFirst_2 (by decide) rfl rfl (inb_in c3) ?_
  by_cases c4 : (σ.2.1 15 x2.toNatClampNeg) = 0
  · rw [if_pos c4] at h
    refine a_iff i_En_keepFirst_3 c4 ?_
    refine a_aload_n i_En_keepFirst_6 rfl ?_
    refine a_iload_n i_En_keepFirst_7 rfl ?_
    refine a_iload_n i_En_keepFirst_8 rfl ?_
    obtain ⟨c8, h⟩ := gd_some h
    refine a_ias (n := 1400) i_En_keepFirst_9 rfl rfl (inb_in c8) ?_
    refine a_aload_n i_En_keepFirst_10 rfl ?_
    refine a_iload_n i_En_keepFirst_11 rfl ?_
    refine a_lload i_En_keepFirst_12 rfl ?_
    obtain ⟨c12, h⟩ := gd_some h
    refine a_las (n := 1400) i_En_keepFirst_14 rfl rfl (inb_in c12) ?_
    exact am_wk (t_En_keepFirst_15_16_15 h) ⟨Or.inl rfl, Or.inl rfl, Or.inl rfl, Or.inl rfl, Or.inl rfl, Or.inl rfl, trivial⟩
  · rw [if_neg c4] at h
    refine a_ift i_En_keepFirst_3 c4 ?_
    exact am_wk (t_En_keepFirst_15_16_15 h) ⟨Or.inl rfl, Or.inl rfl, Or.inl rfl, Or.inl rfl, Or.inl rfl, Or.inl rfl, trivial⟩
theorem t_En_keepFirst_15_16 {x2 : Int32} {x3 : Int32} {x4 : Int64} {σ σ' : am_S} {r : Unit} (h : g_En_keepFirst_15_16 x2 x3 x4 σ = some (r, σ')) : am_Mt S_c M_En_keepFirst [.ref 15, .ref 16, .int x2, .int x3, .long x4] σ (fun q τ => q = none ∧ τ = σ') :=
  am_M_of ok_En_keepFirst (Nat.le_of_ble_eq_true rfl) (t_En_keepFirst_15_16_0 h)
def g_En_keepFirst_19_20_15 (σ : am_S) : Option (Unit × am_S) :=
  some ((), σ)
set_option maxHeartbeats 4000000 in
theorem t_En_keepFirst_19_20_15 {σ σ' : am_S} {r : Unit} (h : g_En_keepFirst_19_20_15 σ = some (r, σ')) : am_A S_c M_En_keepFirst (15, [none, none, none, none, none, none], [], σ) (am_r S_c (fun q τ => q = none ∧ τ = σ')) := by
  unfold g_En_keepFirst_19_20_15 at h
  exact am_ret_v ok_En_keepFirst rfl rfl (am_lf_v h)
def g_En_keepFirst_19_20 (x2 : Int32) (x3 : Int32) (x4 : Int64) (σ : am_S) : Option (Unit × am_S) :=
  am_gd (inb x2 16) <|
  if (σ.2.1 19 x2.toNatClampNeg) = 0 then
    am_gd (inb x2 16) <|
    am_gd (inb x2 16) <|
    g_En_keepFirst_19_20_15 (am_al (am_ai σ 19 x2.toNatClampNeg x3) 20 x2.toNatClampNeg x4)
  else
    g_En_keepFirst_19_20_15 σ
set_option maxHeartbeats 4000000 in
theorem t_En_keepFirst_19_20_0 {x2 : Int32} {x3 : Int32} {x4 : Int64} {σ σ' : am_S} {r : Unit} (h : g_En_keepFirst_19_20 x2 x3 x4 σ = some (r, σ')) : am_A S_c M_En_keepFirst (0, [some (.ref 19), some (.ref 20), some (.int x2), some (.int x3), some (.long x4), none], [], σ) (am_r S_c (fun q τ => q = none ∧ τ = σ')) := by
  unfold g_En_keepFirst_19_20 at h
  refine a_aload_n i_En_keepFirst_0 rfl ?_
  refine a_iload_n i_En_keepFirst_1 rfl ?_
  obtain ⟨c3, h⟩ := gd_some h
  refine a_ial (n := 16) i_En_keepFirst_2 (by decide) rfl rfl (inb_in c3) ?_
  by_cases c4 : (σ.2.1 19 x2.toNatClampNeg) = 0
  · rw [if_pos c4] at h
    refine a_iff i_En_keepFirst_3 c4 ?_
    refine a_aload_n i_En_keepFirst_6 rfl ?_
    refine a_iload_n i_En_keepFirst_7 rfl ?_
    refine a_iload_n i_En_keepFirst_8 rfl ?_
    obtain ⟨c8, h⟩ := gd_some h
    refine a_ias (n := 16) i_En_keepFirst_9 rfl rfl (inb_in c8) ?_
    refine a_aload_n i_En_keepFirst_10 rfl ?_
    refine a_iload_n i_En_keepFirst_11 rfl ?_
    refine a_lload i_En_keepFirst_12 rfl ?_
    obtain ⟨c12, h⟩ := gd_some h
    refine a_las (n := 16) i_En_keepFirst_14 rfl rfl (inb_in c12) ?_
    exact am_wk (t_En_keepFirst_19_20_15 h) ⟨Or.inl rfl, Or.inl rfl, Or.inl rfl, Or.inl rfl, Or.inl rfl, Or.inl rfl, trivial⟩
  · rw [if_neg c4] at h
    refine a_ift i_En_keepFirst_3 c4 ?_
    exact am_wk (t_En_keepFirst_19_20_15 h) ⟨Or.inl rfl, Or.inl rfl, Or.inl rfl, Or.inl rfl, Or.inl rfl, Or.inl rfl, trivial⟩
theorem t_En_keepFirst_19_20 {x2 : Int32} {x3 : Int32} {x4 : Int64} {σ σ' : am_S} {r : Unit} (h : g_En_keepFirst_19_20 x2 x3 x4 σ = some (r, σ')) : am_Mt S_c M_En_keepFirst [.ref 19, .ref 20, .int x2, .int x3, .long x4] σ (fun q τ => q = none ∧ τ = σ') :=
  am_M_of ok_En_keepFirst (Nat.le_of_ble_eq_true rfl) (t_En_keepFirst_19_20_0 h)
def g_En_keep_109 (σ : am_S) : Option (Unit × am_S) :=
  some ((), σ)
set_option maxHeartbeats 4000000 in
theorem t_En_keep_109 {σ σ' : am_S} {r : Unit} (h : g_En_keep_109 σ = some (r, σ')) : am_A S_c M_En_keep (109, [none, none, none, none, none, none, none, none, none], [], σ) (am_r S_c (fun q τ => q = none ∧ τ = σ')) := by
  unfold g_En_keep_109 at h
  exact am_ret_v ok_En_keep rfl rfl (am_lf_v h)
def g_En_keep_63 (x3 : Int32) (x4 : Int64) (x6 : Int32) (x8 : Int32) (σ : am_S) : Option (Unit × am_S) :=
  if x8 = (-1) then
    g_En_keep_109 σ
  else
    am_gd (inb x6 200) <|
    if (lg_cmp (σ.2.2 11 x6.toNatClampNeg) 17) = 0 then
      am_gd (inb x6 200) <|
      am_bd (g_En_keepFirst_19_20 (((σ.2.1 13 x6.toNatClampNeg) * 4) + x8) x3 x4 σ) fun _ σ25 =>
      g_En_keep_109 σ25
    else
      g_En_keep_109 σ
set_option maxHeartbeats 4000000 in
theorem t_En_keep_63 {x3 : Int32} {x4 : Int64} {x6 : Int32} {x8 : Int32} {σ σ' : am_S} {r : Unit} (h : g_En_keep_63 x3 x4 x6 x8 σ = some (r, σ')) : am_A S_c M_En_keep (63, [some (.ref 10), none, none, some (.int x3), some (.long x4), none, some (.int x6), none, some (.int x8)], [], σ) (am_r S_c (fun q τ => q = none ∧ τ = σ')) := by
  unfold g_En_keep_63 at h
  refine a_iload i_En_keep_63 rfl ?_
  refine a_iconst i_En_keep_65 ?_
  by_cases c3 : x8 = (-1)
  · rw [if_pos c3] at h
    refine a_ict i_En_keep_66 c3 ?_
    exact am_wk (t_En_keep_109 h) ⟨Or.inl rfl, Or.inl rfl, Or.inl rfl, Or.inl rfl, Or.inl rfl, Or.inl rfl, Or.inl rfl, Or.inl rfl, Or.inl rfl, trivial⟩
  · rw [if_neg c3] at h
    refine a_icf i_En_keep_66 c3 ?_
    refine a_aload_n i_En_keep_69 rfl ?_
    refine a_get (v := .ref 11) i_En_keep_70 rfl rfl ?_
    refine a_iload i_En_keep_73 rfl ?_
    obtain ⟨c7, h⟩ := gd_some h
    refine a_lal (n := 200) i_En_keep_75 rfl rfl (inb_in c7) ?_
    refine a_ldc2 i_En_keep_76 ?_
    refine a_lcmp i_En_keep_79 ?_
    by_cases c10 : (lg_cmp (σ.2.2 11 x6.toNatClampNeg) 17) = 0
    · rw [if_pos c10] at h
      refine a_iff i_En_keep_80 c10 ?_
      refine a_aload_n i_En_keep_83 rfl ?_
      refine a_get (v := .ref 19) i_En_keep_84 rfl rfl ?_
      refine a_aload_n i_En_keep_87 rfl ?_
      refine a_get (v := .ref 20) i_En_keep_88 rfl rfl ?_
      refine a_aload_n i_En_keep_91 rfl ?_
      refine a_get (v := .ref 13) i_En_keep_92 rfl rfl ?_
      refine a_iload i_En_keep_95 rfl ?_
      obtain ⟨c18, h⟩ := gd_some h
      refine a_ial (n := 200) i_En_keep_97 (by decide) rfl rfl (inb_in c18) ?_
      refine a_iconst i_En_keep_98 ?_
      refine a_imul i_En_keep_99 ?_
      refine a_iload i_En_keep_100 rfl ?_
      refine a_iadd i_En_keep_102 ?_
      refine a_iload_n i_En_keep_103 rfl ?_
      refine a_lload i_En_keep_104 rfl ?_
      obtain ⟨v25, σ25, e25, h⟩ := am_bd_some h
      refine am_csd (rest := []) [.ref 19, .ref 20, .int (((σ.2.1 13 x6.toNatClampNeg) * 4) + x8), .int x3, .long x4] c_En_keep_106 rfl (Nat.le_of_ble_eq_true rfl) (t_En_keepFirst_19_20 e25) ?_
      exact am_wk (t_En_keep_109 h) ⟨Or.inl rfl, Or.inl rfl, Or.inl rfl, Or.inl rfl, Or.inl rfl, Or.inl rfl, Or.inl rfl, Or.inl rfl, Or.inl rfl, trivial⟩
    · rw [if_neg c10] at h
      refine a_ift i_En_keep_80 c10 ?_
      exact am_wk (t_En_keep_109 h) ⟨Or.inl rfl, Or.inl rfl, Or.inl rfl, Or.inl rfl, Or.inl rfl, Or.inl rfl, Or.inl rfl, Or.inl rfl, Or.inl rfl, trivial⟩
def g_En_keep (x1 : Int64) (x3 : Int32) (x4 : Int64) (σ : am_S) : Option (Unit × am_S) :=
  am_bd (g_F_indexOf_66 x1 σ) fun v8 σ8 =>
  am_bd (g_F_indexOf_67 x1 σ8) fun v12 σ12 =>
  if v8 = (-1) then
    g_En_keep_63 x3 x4 ((σ.1.1 10 10) - 1) v12 σ12
  else
    am_bd (g_En_isLookedAt ((σ.1.1 10 10) - 1) σ12) fun v19 σ19 =>
    if v19 = 0 then
      g_En_keep_63 x3 x4 ((σ.1.1 10 10) - 1) v12 σ19
    else
      am_bd (g_En_keepFirst_15_16 ((((σ.1.1 10 10) - 1) * 7) + v8) x3 x4 σ19) fun _ σ32 =>
      g_En_keep_63 x3 x4 ((σ.1.1 10 10) - 1) v12 σ32
set_option maxHeartbeats 4000000 in
theorem t_En_keep_0 {x1 : Int64} {x3 : Int32} {x4 : Int64} {σ σ' : am_S} {r : Unit} (h : g_En_keep x1 x3 x4 σ = some (r, σ')) : am_A S_c M_En_keep (0, [some (.ref 10), some (.long x1), none, some (.int x3), some (.long x4), none, none, none, none], [], σ) (am_r S_c (fun q τ => q = none ∧ τ = σ')) := by
  unfold g_En_keep at h
  refine a_aload_n i_En_keep_0 rfl ?_
  refine a_get (v := .int (σ.1.1 10 10)) i_En_keep_1 rfl rfl ?_
  refine a_iconst i_En_keep_4 ?_
  refine a_isub i_En_keep_5 ?_
  refine a_istore i_En_keep_6 rfl ?_
  refine a_sta i_En_keep_8 ?_
  refine a_lload_n i_En_keep_11 rfl ?_
  obtain ⟨v8, σ8, e8, h⟩ := am_bd_some h
  refine am_csd (rest := []) [.ref 66, .long x1] c_En_keep_12 rfl (Nat.le_of_ble_eq_true rfl) (t_F_indexOf_66 e8) ?_
  refine a_istore i_En_keep_15 rfl ?_
  refine a_sta i_En_keep_17 ?_
  refine a_lload_n i_En_keep_20 rfl ?_
  obtain ⟨v12, σ12, e12, h⟩ := am_bd_some h
  refine am_csd (rest := []) [.ref 67, .long x1] c_En_keep_21 rfl (Nat.le_of_ble_eq_true rfl) (t_F_indexOf_67 e12) ?_
  refine a_istore i_En_keep_24 rfl ?_
  refine a_iload i_En_keep_26 rfl ?_
  refine a_iconst i_En_keep_28 ?_
  by_cases c16 : v8 = (-1)
  · rw [if_pos c16] at h
    refine a_ict i_En_keep_29 c16 ?_
    exact am_wk (t_En_keep_63 h) ⟨Or.inr rfl, Or.inl rfl, Or.inl rfl, Or.inr rfl, Or.inr rfl, Or.inl rfl, Or.inr rfl, Or.inl rfl, Or.inr rfl, trivial⟩
  · rw [if_neg c16] at h
    refine a_icf i_En_keep_29 c16 ?_
    refine a_aload_n i_En_keep_32 rfl ?_
    refine a_iload i_En_keep_33 rfl ?_
    obtain ⟨v19, σ19, e19, h⟩ := am_bd_some h
    refine am_cvd (rest := []) [.int ((σ.1.1 10 10) - 1)] c_En_keep_35 ⟨by decide, _, rfl⟩ rfl (Nat.le_of_ble_eq_true rfl) (t_En_isLookedAt e19) ?_
    by_cases c20 : v19 = 0
    · rw [if_pos c20] at h
      refine a_ift i_En_keep_38 c20 ?_
      exact am_wk (t_En_keep_63 h) ⟨Or.inr rfl, Or.inl rfl, Or.inl rfl, Or.inr rfl, Or.inr rfl, Or.inl rfl, Or.inr rfl, Or.inl rfl, Or.inr rfl, trivial⟩
    · rw [if_neg c20] at h
      refine a_iff i_En_keep_38 c20 ?_
      refine a_aload_n i_En_keep_41 rfl ?_
      refine a_get (v := .ref 15) i_En_keep_42 rfl rfl ?_
      refine a_aload_n i_En_keep_45 rfl ?_
      refine a_get (v := .ref 16) i_En_keep_46 rfl rfl ?_
      refine a_iload i_En_keep_49 rfl ?_
      refine a_bipush i_En_keep_51 ?_
      refine a_imul i_En_keep_53 ?_
      refine a_iload i_En_keep_54 rfl ?_
      refine a_iadd i_En_keep_56 ?_
      refine a_iload_n i_En_keep_57 rfl ?_
      refine a_lload i_En_keep_58 rfl ?_
      obtain ⟨v32, σ32, e32, h⟩ := am_bd_some h
      refine am_csd (rest := []) [.ref 15, .ref 16, .int ((((σ.1.1 10 10) - 1) * 7) + v8), .int x3, .long x4] c_En_keep_60 rfl (Nat.le_of_ble_eq_true rfl) (t_En_keepFirst_15_16 e32) ?_
      exact am_wk (t_En_keep_63 h) ⟨Or.inr rfl, Or.inl rfl, Or.inl rfl, Or.inr rfl, Or.inr rfl, Or.inl rfl, Or.inr rfl, Or.inl rfl, Or.inr rfl, trivial⟩
theorem t_En_keep {x1 : Int64} {x3 : Int32} {x4 : Int64} {σ σ' : am_S} {r : Unit} (h : g_En_keep x1 x3 x4 σ = some (r, σ')) : am_Mt S_c M_En_keep [.ref 10, .long x1, .int x3, .long x4] σ (fun q τ => q = none ∧ τ = σ') :=
  am_M_of ok_En_keep (Nat.le_of_ble_eq_true rfl) (t_En_keep_0 h)
def g_En_has_19 (y0 : Int32) (σ : am_S) : Option (Int32 × am_S) :=
  am_gd (z01 y0) <|
  some (y0, σ)
set_option maxHeartbeats 4000000 in
theorem t_En_has_19 {y0 : Int32} {σ σ' : am_S} {r : Int32} (h : g_En_has_19 y0 σ = some (r, σ')) : am_A S_c M_En_has (19, [none, none, none], [.int y0], σ) (am_r S_c (fun q τ => q = some (.int r) ∧ τ = σ')) := by
  unfold g_En_has_19 at h
  obtain ⟨c1, h⟩ := gd_some h
  exact am_ret_z ok_En_has rfl rfl (z01_or c1) (am_lf_i h)
def g_En_has (x1 : Int32) (x2 : Int32) (σ : am_S) : Option (Int32 × am_S) :=
  am_gd (inb ((x1 * 7) + x2) 1400) <|
  if (σ.2.1 15 ((x1 * 7) + x2).toNatClampNeg) = 0 then
    g_En_has_19 (0) σ
  else
    g_En_has_19 (1) σ
set_option maxHeartbeats 4000000 in
theorem t_En_has_0 {x1 : Int32} {x2 : Int32} {σ σ' : am_S} {r : Int32} (h : g_En_has x1 x2 σ = some (r, σ')) : am_A S_c M_En_has (0, [some (.ref 10), some (.int x1), some (.int x2)], [], σ) (am_r S_c (fun q τ => q = some (.int r) ∧ τ = σ')) := by
  unfold g_En_has at h
  refine a_aload_n i_En_has_0 rfl ?_
  refine a_get (v := .ref 15) i_En_has_1 rfl rfl ?_
  refine a_iload_n i_En_has_4 rfl ?_
  refine a_bipush i_En_has_5 ?_
  refine a_imul i_En_has_7 ?_
  refine a_iload_n i_En_has_8 rfl ?_
  refine a_iadd i_En_has_9 ?_
  obtain ⟨c8, h⟩ := gd_some h
  refine a_ial (n := 1400) i_En_has_10 (by decide) rfl rfl (inb_in c8) ?_
  by_cases c9 : (σ.2.1 15 ((x1 * 7) + x2).toNatClampNeg) = 0
  · rw [if_pos c9] at h
    refine a_ift i_En_has_11 c9 ?_
    refine a_iconst i_En_has_18 ?_
    exact am_wk (t_En_has_19 h) ⟨Or.inl rfl, Or.inl rfl, Or.inl rfl, trivial⟩
  · rw [if_neg c9] at h
    refine a_iff i_En_has_11 c9 ?_
    refine a_iconst i_En_has_14 ?_
    refine a_goto i_En_has_15 ?_
    exact am_wk (t_En_has_19 h) ⟨Or.inl rfl, Or.inl rfl, Or.inl rfl, trivial⟩
theorem t_En_has {x1 : Int32} {x2 : Int32} {σ σ' : am_S} {r : Int32} (h : g_En_has x1 x2 σ = some (r, σ')) : am_Mt S_c M_En_has [.ref 10, .int x1, .int x2] σ (fun q τ => q = some (.int r) ∧ τ = σ') :=
  am_M_of ok_En_has (Nat.le_of_ble_eq_true rfl) (t_En_has_0 h)
def g_En_valueOf (x1 : Int32) (x2 : Int32) (σ : am_S) : Option (Int64 × am_S) :=
  am_gd (inb ((x1 * 7) + x2) 1400) <|
  some (σ.2.2 16 ((x1 * 7) + x2).toNatClampNeg, σ)
set_option maxHeartbeats 4000000 in
theorem t_En_valueOf_0 {x1 : Int32} {x2 : Int32} {σ σ' : am_S} {r : Int64} (h : g_En_valueOf x1 x2 σ = some (r, σ')) : am_A S_c M_En_valueOf (0, [some (.ref 10), some (.int x1), some (.int x2)], [], σ) (am_r S_c (fun q τ => q = some (.long r) ∧ τ = σ')) := by
  unfold g_En_valueOf at h
  refine a_aload_n i_En_valueOf_0 rfl ?_
  refine a_get (v := .ref 16) i_En_valueOf_1 rfl rfl ?_
  refine a_iload_n i_En_valueOf_4 rfl ?_
  refine a_bipush i_En_valueOf_5 ?_
  refine a_imul i_En_valueOf_7 ?_
  refine a_iload_n i_En_valueOf_8 rfl ?_
  refine a_iadd i_En_valueOf_9 ?_
  obtain ⟨c8, h⟩ := gd_some h
  refine a_lal (n := 1400) i_En_valueOf_10 rfl rfl (inb_in c8) ?_
  exact am_ret_l ok_En_valueOf rfl rfl (am_lf_l h)
theorem t_En_valueOf {x1 : Int32} {x2 : Int32} {σ σ' : am_S} {r : Int64} (h : g_En_valueOf x1 x2 σ = some (r, σ')) : am_Mt S_c M_En_valueOf [.ref 10, .int x1, .int x2] σ (fun q τ => q = some (.long r) ∧ τ = σ') :=
  am_M_of ok_En_valueOf (Nat.le_of_ble_eq_true rfl) (t_En_valueOf_0 h)
