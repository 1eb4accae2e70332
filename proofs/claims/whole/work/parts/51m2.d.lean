def g_Mo_open_136 (y0 : Int32) (σ : am_S) : Option (Int32 × am_S) :=
  some (y0, σ)
set_option maxHeartbeats 4000000 in
theorem t_Mo_open_136 {y0 : Int32} {σ σ' : am_S} {r : Int32} (h : g_Mo_open_136 y0 σ = some (r, σ')) : am_A S_m M_Mo_open (136, [none], [.int y0], σ) (am_r S_m (fun q τ => q = some (.int r) ∧ τ = σ')) := by
  unfold g_Mo_open_136 at h
  exact am_ret_i ok_Mo_open rfl rfl (am_lf_i h)
def g_Mo_open_118 (y0 : Int32) (σ : am_S) : Option (Int32 × am_S) :=
  if (σ.1.1 0 5) = 0 then
    g_Mo_open_136 (0) (am_fi σ 0 1 y0)
  else
    g_Mo_open_136 (σ.1.1 0 22) (am_fi σ 0 1 y0)
set_option maxHeartbeats 4000000 in
theorem t_Mo_open_118 {y0 : Int32} {σ σ' : am_S} {r : Int32} (h : g_Mo_open_118 y0 σ = some (r, σ')) : am_A S_m M_Mo_open (118, [some (.ref 0)], [.int y0, .ref 0], σ) (am_r S_m (fun q τ => q = some (.int r) ∧ τ = σ')) := by
  unfold g_Mo_open_118 at h
  refine a_puti i_Mo_open_118 rfl trivial ?_
  refine a_aload_n i_Mo_open_121 rfl ?_
  refine a_get (v := .int (σ.1.1 0 5)) i_Mo_open_122 rfl rfl ?_
  by_cases c4 : (σ.1.1 0 5) = 0
  · rw [if_pos c4] at h
    refine a_ift i_Mo_open_125 c4 ?_
    refine a_iconst i_Mo_open_135 ?_
    exact am_wk (t_Mo_open_136 h) ⟨Or.inl rfl, trivial⟩
  · rw [if_neg c4] at h
    refine a_iff i_Mo_open_125 c4 ?_
    refine a_aload_n i_Mo_open_128 rfl ?_
    refine a_get (v := .int (σ.1.1 0 22)) i_Mo_open_129 rfl rfl ?_
    refine a_goto i_Mo_open_132 ?_
    exact am_wk (t_Mo_open_136 h) ⟨Or.inl rfl, trivial⟩
def g_Mo_open_102 (y0 : Int32) (σ : am_S) : Option (Int32 × am_S) :=
  am_gd (z01 y0) <|
  if y0 = 0 then
    g_Mo_open_118 (1) (am_fi σ 0 5 y0)
  else
    g_Mo_open_118 (0) (am_fi σ 0 5 y0)
set_option maxHeartbeats 4000000 in
theorem t_Mo_open_102 {y0 : Int32} {σ σ' : am_S} {r : Int32} (h : g_Mo_open_102 y0 σ = some (r, σ')) : am_A S_m M_Mo_open (102, [some (.ref 0)], [.int y0, .ref 0], σ) (am_r S_m (fun q τ => q = some (.int r) ∧ τ = σ')) := by
  unfold g_Mo_open_102 at h
  obtain ⟨c1, h⟩ := gd_some h
  refine a_puti i_Mo_open_102 rfl (z01_or c1) ?_
  refine a_aload_n i_Mo_open_105 rfl ?_
  refine a_aload_n i_Mo_open_106 rfl ?_
  refine a_get (v := .int y0) i_Mo_open_107 rfl rfl ?_
  by_cases c5 : y0 = 0
  · rw [if_pos c5] at h
    refine a_ift i_Mo_open_110 c5 ?_
    refine a_iconst i_Mo_open_117 ?_
    exact t_Mo_open_118 h
  · rw [if_neg c5] at h
    refine a_iff i_Mo_open_110 c5 ?_
    refine a_iconst i_Mo_open_113 ?_
    refine a_goto i_Mo_open_114 ?_
    exact t_Mo_open_118 h
def g_Mo_open_86 (y0 : Int32) (σ : am_S) : Option (Int32 × am_S) :=
  if y0 = 0 then
    g_Mo_open_102 (1) (am_fi σ 0 4 y0)
  else
    g_Mo_open_102 (0) (am_fi σ 0 4 y0)
set_option maxHeartbeats 4000000 in
theorem t_Mo_open_86 {y0 : Int32} {σ σ' : am_S} {r : Int32} (h : g_Mo_open_86 y0 σ = some (r, σ')) : am_A S_m M_Mo_open (86, [some (.ref 0)], [.int y0, .ref 0], σ) (am_r S_m (fun q τ => q = some (.int r) ∧ τ = σ')) := by
  unfold g_Mo_open_86 at h
  refine a_puti i_Mo_open_86 rfl trivial ?_
  refine a_aload_n i_Mo_open_89 rfl ?_
  refine a_aload_n i_Mo_open_90 rfl ?_
  refine a_get (v := .int y0) i_Mo_open_91 rfl rfl ?_
  by_cases c5 : y0 = 0
  · rw [if_pos c5] at h
    refine a_iff i_Mo_open_94 c5 ?_
    refine a_iconst i_Mo_open_97 ?_
    refine a_goto i_Mo_open_98 ?_
    exact t_Mo_open_102 h
  · rw [if_neg c5] at h
    refine a_ift i_Mo_open_94 c5 ?_
    refine a_iconst i_Mo_open_101 ?_
    exact t_Mo_open_102 h
def g_Mo_open (σ : am_S) : Option (Int32 × am_S) :=
  am_bd (g_Mo_forget σ) fun _ σ2 =>
  am_bd (g_Mo_readSections (am_fi (am_fi (am_fi (am_fi (am_fi σ2 0 9 0) 0 21 0) 0 22 0) 0 33 0) 0 38 0)) fun v20 σ20 =>
  if v20 = 0 then
    g_Mo_open_86 (1) σ20
  else
    am_bd (g_Mo_readUnits σ20) fun v23 σ23 =>
    if v23 = 0 then
      g_Mo_open_86 (2) σ23
    else
      am_bd (g_Mo_readValues σ23) fun v26 σ26 =>
      if v26 = 0 then
        g_Mo_open_86 (3) σ26
      else
        am_bd (g_Mo_readAllLines σ26) fun v29 σ29 =>
        if v29 = 0 then
          g_Mo_open_86 (4) σ29
        else
          am_bd (g_Mo_readSymbols σ29) fun v32 σ32 =>
          if v32 = 0 then
            g_Mo_open_86 (5) σ32
          else
            g_Mo_open_86 (0) σ32
set_option maxHeartbeats 4000000 in
theorem t_Mo_open_0 {σ σ' : am_S} {r : Int32} (h : g_Mo_open σ = some (r, σ')) : am_A S_m M_Mo_open (0, [some (.ref 0)], [], σ) (am_r S_m (fun q τ => q = some (.int r) ∧ τ = σ')) := by
  unfold g_Mo_open at h
  refine a_aload_n i_Mo_open_0 rfl ?_
  obtain ⟨v2, σ2, e2, h⟩ := am_bd_some h
  refine am_cvd (rest := []) [] c_Mo_open_1 ⟨by decide, _, rfl⟩ rfl (Nat.le_of_ble_eq_true rfl) (t_Mo_forget e2) ?_
  refine a_aload_n i_Mo_open_4 rfl ?_
  refine a_iconst i_Mo_open_5 ?_
  refine a_puti i_Mo_open_6 rfl trivial ?_
  refine a_aload_n i_Mo_open_9 rfl ?_
  refine a_iconst i_Mo_open_10 ?_
  refine a_puti i_Mo_open_11 rfl trivial ?_
  refine a_aload_n i_Mo_open_14 rfl ?_
  refine a_iconst i_Mo_open_15 ?_
  refine a_puti i_Mo_open_16 rfl trivial ?_
  refine a_aload_n i_Mo_open_19 rfl ?_
  refine a_iconst i_Mo_open_20 ?_
  refine a_puti i_Mo_open_21 rfl trivial ?_
  refine a_aload_n i_Mo_open_24 rfl ?_
  refine a_iconst i_Mo_open_25 ?_
  refine a_puti i_Mo_open_26 rfl trivial ?_
  refine a_aload_n i_Mo_open_29 rfl ?_
  refine a_aload_n i_Mo_open_30 rfl ?_
  obtain ⟨v20, σ20, e20, h⟩ := am_bd_some h
  refine am_cvd (rest := [.ref 0]) [] c_Mo_open_31 ⟨by decide, _, rfl⟩ rfl (Nat.le_of_ble_eq_true rfl) (t_Mo_readSections e20) ?_
  by_cases c21 : v20 = 0
  · rw [if_pos c21] at h
    refine a_iff i_Mo_open_34 c21 ?_
    refine a_iconst i_Mo_open_37 ?_
    refine a_goto i_Mo_open_38 ?_
    exact t_Mo_open_86 h
  · rw [if_neg c21] at h
    refine a_ift i_Mo_open_34 c21 ?_
    refine a_aload_n i_Mo_open_41 rfl ?_
    obtain ⟨v23, σ23, e23, h⟩ := am_bd_some h
    refine am_cvd (rest := [.ref 0]) [] c_Mo_open_42 ⟨by decide, _, rfl⟩ rfl (Nat.le_of_ble_eq_true rfl) (t_Mo_readUnits e23) ?_
    by_cases c24 : v23 = 0
    · rw [if_pos c24] at h
      refine a_iff i_Mo_open_45 c24 ?_
      refine a_iconst i_Mo_open_48 ?_
      refine a_goto i_Mo_open_49 ?_
      exact t_Mo_open_86 h
    · rw [if_neg c24] at h
      refine a_ift i_Mo_open_45 c24 ?_
      refine a_aload_n i_Mo_open_52 rfl ?_
      obtain ⟨v26, σ26, e26, h⟩ := am_bd_some h
      refine am_cvd (rest := [.ref 0]) [] c_Mo_open_53 ⟨by decide, _, rfl⟩ rfl (Nat.le_of_ble_eq_true rfl) (t_Mo_readValues e26) ?_
      by_cases c27 : v26 = 0
      · rw [if_pos c27] at h
        refine a_iff i_Mo_open_56 c27 ?_
        refine a_iconst i_Mo_open_59 ?_
        refine a_goto i_Mo_open_60 ?_
        exact t_Mo_open_86 h
      · rw [if_neg c27] at h
        refine a_ift i_Mo_open_56 c27 ?_
        refine a_aload_n i_Mo_open_63 rfl ?_
        obtain ⟨v29, σ29, e29, h⟩ := am_bd_some h
        refine am_cvd (rest := [.ref 0]) [] c_Mo_open_64 ⟨by decide, _, rfl⟩ rfl (Nat.le_of_ble_eq_true rfl) (t_Mo_readAllLines e29) ?_
        by_cases c30 : v29 = 0
        · rw [if_pos c30] at h
          refine a_iff i_Mo_open_67 c30 ?_
          refine a_iconst i_Mo_open_70 ?_
          refine a_goto i_Mo_open_71 ?_
          exact t_Mo_open_86 h
        · rw [if_neg c30] at h
          refine a_ift i_Mo_open_67 c30 ?_
          refine a_aload_n i_Mo_open_74 rfl ?_
          obtain ⟨v32, σ32, e32, h⟩ := am_bd_some h
          refine am_cvd (rest := [.ref 0]) [] c_Mo_open_75 ⟨by decide, _, rfl⟩ rfl (Nat.le_of_ble_eq_true rfl) (t_Mo_readSymbols e32) ?_
          by_cases c33 : v32 = 0
          · rw [if_pos c33] at h
            refine a_iff i_Mo_open_78 c33 ?_
            refine a_iconst i_Mo_open_81 ?_
            refine a_goto i_Mo_open_82 ?_
            exact t_Mo_open_86 h
          · rw [if_neg c33] at h
            refine a_ift i_Mo_open_78 c33 ?_
            refine a_iconst i_Mo_open_85 ?_
            exact t_Mo_open_86 h
theorem t_Mo_open {σ σ' : am_S} {r : Int32} (h : g_Mo_open σ = some (r, σ')) : am_Mt S_m M_Mo_open [.ref 0] σ (fun q τ => q = some (.int r) ∧ τ = σ') :=
  am_M_of ok_Mo_open (Nat.le_of_ble_eq_true rfl) (t_Mo_open_0 h)
def g_Mo_fault (σ : am_S) : Option (Int32 × am_S) :=
  some (σ.1.1 0 4, am_fi σ 0 1 0)
set_option maxHeartbeats 4000000 in
theorem t_Mo_fault_0 {σ σ' : am_S} {r : Int32} (h : g_Mo_fault σ = some (r, σ')) : am_A S_m M_Mo_fault (0, [some (.ref 0)], [], σ) (am_r S_m (fun q τ => q = some (.int r) ∧ τ = σ')) := by
  unfold g_Mo_fault at h
  refine a_aload_n i_Mo_fault_0 rfl ?_
  refine a_iconst i_Mo_fault_1 ?_
  refine a_puti i_Mo_fault_2 rfl trivial ?_
  refine a_aload_n i_Mo_fault_5 rfl ?_
  refine a_get (v := .int (σ.1.1 0 4)) i_Mo_fault_6 rfl rfl ?_
  exact am_ret_i ok_Mo_fault rfl rfl (am_lf_i h)
theorem t_Mo_fault {σ σ' : am_S} {r : Int32} (h : g_Mo_fault σ = some (r, σ')) : am_Mt S_m M_Mo_fault [.ref 0] σ (fun q τ => q = some (.int r) ∧ τ = σ') :=
  am_M_of ok_Mo_fault (Nat.le_of_ble_eq_true rfl) (t_Mo_fault_0 h)
def g_Mo_count (x1 : Int32) (σ : am_S) : Option (Int32 × am_S) :=
  if (σ.1.1 0 5) = 0 then
    some ((-1), am_fi σ 0 1 0)
  else
    if x1 = 0 then
      some (σ.1.1 0 9, am_fi σ 0 1 0)
    else
    if x1 = 1 then
      some (σ.1.1 0 21, am_fi σ 0 1 0)
    else
    if x1 = 2 then
      some (σ.1.1 0 22, am_fi σ 0 1 0)
    else
    if x1 = 3 then
      some (σ.1.1 0 33, am_fi σ 0 1 0)
    else
    if x1 = 4 then
      some (σ.1.1 0 38, am_fi σ 0 1 0)
    else
    if x1 = 5 then
      some (σ.1.1 0 54, am_fi σ 0 1 0)
    else
    some ((-1), am_fi σ 0 1 0)
set_option maxHeartbeats 4000000 in
theorem t_Mo_count_0 {x1 : Int32} {σ σ' : am_S} {r : Int32} (h : g_Mo_count x1 σ = some (r, σ')) : am_A S_m M_Mo_count (0, [some (.ref 0), some (.int x1)], [], σ) (am_r S_m (fun q τ => q = some (.int r) ∧ τ = σ')) := by
  unfold g_Mo_count at h
  refine a_aload_n i_Mo_count_0 rfl ?_
  refine a_iconst i_Mo_count_1 ?_
  refine a_puti i_Mo_count_2 rfl trivial ?_
  refine a_aload_n i_Mo_count_5 rfl ?_
  refine a_get (v := .int (σ.1.1 0 5)) i_Mo_count_6 rfl rfl ?_
  by_cases c6 : (σ.1.1 0 5) = 0
  · rw [if_pos c6] at h
    refine a_iff i_Mo_count_9 c6 ?_
    refine a_iconst i_Mo_count_12 ?_
    exact am_ret_i ok_Mo_count rfl rfl (am_lf_i h)
  · rw [if_neg c6] at h
    refine a_ift i_Mo_count_9 c6 ?_
    refine a_iload_n i_Mo_count_14 rfl ?_
    by_cases d8_0 : x1 = 0
    · rw [if_pos d8_0] at h
      refine a_tab 0 i_Mo_count_15 rfl (by rw [d8_0]; decide) (by decide) rfl ?_
      refine a_aload_n i_Mo_count_52 rfl ?_
      refine a_get (v := .int (σ.1.1 0 9)) i_Mo_count_53 rfl rfl ?_
      exact am_ret_i ok_Mo_count rfl rfl (am_lf_i h)
    rw [if_neg d8_0] at h
    by_cases d8_1 : x1 = 1
    · rw [if_pos d8_1] at h
      refine a_tab 1 i_Mo_count_15 rfl (by rw [d8_1]; decide) (by decide) rfl ?_
      refine a_aload_n i_Mo_count_57 rfl ?_
      refine a_get (v := .int (σ.1.1 0 21)) i_Mo_count_58 rfl rfl ?_
      exact am_ret_i ok_Mo_count rfl rfl (am_lf_i h)
    rw [if_neg d8_1] at h
    by_cases d8_2 : x1 = 2
    · rw [if_pos d8_2] at h
      refine a_tab 2 i_Mo_count_15 rfl (by rw [d8_2]; decide) (by decide) rfl ?_
      refine a_aload_n i_Mo_count_62 rfl ?_
      refine a_get (v := .int (σ.1.1 0 22)) i_Mo_count_63 rfl rfl ?_
      exact am_ret_i ok_Mo_count rfl rfl (am_lf_i h)
    rw [if_neg d8_2] at h
    by_cases d8_3 : x1 = 3
    · rw [if_pos d8_3] at h
      refine a_tab 3 i_Mo_count_15 rfl (by rw [d8_3]; decide) (by decide) rfl ?_
      refine a_aload_n i_Mo_count_67 rfl ?_
      refine a_get (v := .int (σ.1.1 0 33)) i_Mo_count_68 rfl rfl ?_
      exact am_ret_i ok_Mo_count rfl rfl (am_lf_i h)
    rw [if_neg d8_3] at h
    by_cases d8_4 : x1 = 4
    · rw [if_pos d8_4] at h
      refine a_tab 4 i_Mo_count_15 rfl (by rw [d8_4]; decide) (by decide) rfl ?_
      refine a_aload_n i_Mo_count_72 rfl ?_
      refine a_get (v := .int (σ.1.1 0 38)) i_Mo_count_73 rfl rfl ?_
      exact am_ret_i ok_Mo_count rfl rfl (am_lf_i h)
    rw [if_neg d8_4] at h
    by_cases d8_5 : x1 = 5
    · rw [if_pos d8_5] at h
      refine a_tab 5 i_Mo_count_15 rfl (by rw [d8_5]; decide) (by decide) rfl ?_
      refine a_aload_n i_Mo_count_77 rfl ?_
      refine a_get (v := .int (σ.1.1 0 54)) i_Mo_count_78 rfl rfl ?_
      exact am_ret_i ok_Mo_count rfl rfl (am_lf_i h)
    rw [if_neg d8_5] at h
    refine a_tabn [0, 1, 2, 3, 4, 5] i_Mo_count_15 rfl rfl (by decide) (List.forall_mem_cons.mpr ⟨lv_neT d8_0 (a := 0) (by decide), List.forall_mem_cons.mpr ⟨lv_neT d8_1 (a := 1) (by decide), List.forall_mem_cons.mpr ⟨lv_neT d8_2 (a := 2) (by decide), List.forall_mem_cons.mpr ⟨lv_neT d8_3 (a := 3) (by decide), List.forall_mem_cons.mpr ⟨lv_neT d8_4 (a := 4) (by decide), List.forall_mem_cons.mpr ⟨lv_neT d8_5 (a := 5) (by decide), fun _ h9 => absurd h9 List.not_mem_nil⟩⟩⟩⟩⟩⟩) ?_
    refine a_iconst i_Mo_count_82 ?_
    exact am_ret_i ok_Mo_count rfl rfl (am_lf_i h)
theorem t_Mo_count {x1 : Int32} {σ σ' : am_S} {r : Int32} (h : g_Mo_count x1 σ = some (r, σ')) : am_Mt S_m M_Mo_count [.ref 0, .int x1] σ (fun q τ => q = some (.int r) ∧ τ = σ') :=
  am_M_of ok_Mo_count (Nat.le_of_ble_eq_true rfl) (t_Mo_count_0 h)
def g_Mo_isLess_19 (y0 : Int32) (σ : am_S) : Option (Int32 × am_S) :=
  am_gd (z01 y0) <|
  some (y0, σ)
set_option maxHeartbeats 4000000 in
theorem t_Mo_isLess_19 {y0 : Int32} {σ σ' : am_S} {r : Int32} (h : g_Mo_isLess_19 y0 σ = some (r, σ')) : am_A S_m M_Mo_isLess (19, [none, none, none, none], [.int y0], σ) (am_r S_m (fun q τ => q = some (.int r) ∧ τ = σ')) := by
  unfold g_Mo_isLess_19 at h
  obtain ⟨c1, h⟩ := gd_some h
  exact am_ret_z ok_Mo_isLess rfl rfl (z01_or c1) (am_lf_i h)
def g_Mo_isLess (x0 : Int64) (x2 : Int64) (σ : am_S) : Option (Int32 × am_S) :=
  if (lg_cmp (x0 + (-9223372036854775808)) (x2 + (-9223372036854775808))) < 0 then
    g_Mo_isLess_19 (1) σ
  else
    g_Mo_isLess_19 (0) σ
set_option maxHeartbeats 4000000 in
theorem t_Mo_isLess_0 {x0 : Int64} {x2 : Int64} {σ σ' : am_S} {r : Int32} (h : g_Mo_isLess x0 x2 σ = some (r, σ')) : am_A S_m M_Mo_isLess (0, [some (.long x0), none, some (.long x2), none], [], σ) (am_r S_m (fun q τ => q = some (.int r) ∧ τ = σ')) := by
  unfold g_Mo_isLess at h
  refine a_lload_n i_Mo_isLess_0 rfl ?_
  refine a_ldc2 i_Mo_isLess_1 ?_
  refine a_ladd i_Mo_isLess_4 ?_
  refine a_lload_n i_Mo_isLess_5 rfl ?_
  refine a_ldc2 i_Mo_isLess_6 ?_
  refine a_ladd i_Mo_isLess_9 ?_
  refine a_lcmp i_Mo_isLess_10 ?_
  by_cases c8 : (lg_cmp (x0 + (-9223372036854775808)) (x2 + (-9223372036854775808))) < 0
  · rw [if_pos c8] at h
    refine a_iff i_Mo_isLess_11 (Int32.not_le.mpr c8) ?_
    refine a_iconst i_Mo_isLess_14 ?_
    refine a_goto i_Mo_isLess_15 ?_
    exact am_wk (t_Mo_isLess_19 h) ⟨Or.inl rfl, Or.inl rfl, Or.inl rfl, Or.inl rfl, trivial⟩
  · rw [if_neg c8] at h
    refine a_ift i_Mo_isLess_11 (Int32.not_lt.mp c8) ?_
    refine a_iconst i_Mo_isLess_18 ?_
    exact am_wk (t_Mo_isLess_19 h) ⟨Or.inl rfl, Or.inl rfl, Or.inl rfl, Or.inl rfl, trivial⟩
theorem t_Mo_isLess {x0 : Int64} {x2 : Int64} {σ σ' : am_S} {r : Int32} (h : g_Mo_isLess x0 x2 σ = some (r, σ')) : am_Mt S_m M_Mo_isLess [.long x0, .long x2] σ (fun q τ => q = some (.int r) ∧ τ = σ') :=
  am_M_of ok_Mo_isLess (Nat.le_of_ble_eq_true rfl) (t_Mo_isLess_0 h)
def g_Mo_isWithin_22 (y0 : Int32) (σ : am_S) : Option (Int32 × am_S) :=
  am_gd (z01 y0) <|
  some (y0, σ)
set_option maxHeartbeats 4000000 in
theorem t_Mo_isWithin_22 {y0 : Int32} {σ σ' : am_S} {r : Int32} (h : g_Mo_isWithin_22 y0 σ = some (r, σ')) : am_A S_m M_Mo_isWithin (22, [none, none, none, none, none, none], [.int y0], σ) (am_r S_m (fun q τ => q = some (.int r) ∧ τ = σ')) := by
  unfold g_Mo_isWithin_22 at h
  obtain ⟨c1, h⟩ := gd_some h
  exact am_ret_z ok_Mo_isWithin rfl rfl (z01_or c1) (am_lf_i h)
def g_Mo_isWithin_21 (σ : am_S) : Option (Int32 × am_S) :=
  g_Mo_isWithin_22 (0) σ
set_option maxHeartbeats 4000000 in
theorem t_Mo_isWithin_21 {σ σ' : am_S} {r : Int32} (h : g_Mo_isWithin_21 σ = some (r, σ')) : am_A S_m M_Mo_isWithin (21, [none, none, none, none, none, none], [], σ) (am_r S_m (fun q τ => q = some (.int r) ∧ τ = σ')) := by
  unfold g_Mo_isWithin_21 at h
  refine a_iconst i_Mo_isWithin_21 ?_
  exact t_Mo_isWithin_22 h
def g_Mo_isWithin (x0 : Int64) (x2 : Int64) (x4 : Int64) (σ : am_S) : Option (Int32 × am_S) :=
  am_bd (g_Mo_isLess x0 x2 σ) fun v3 σ3 =>
  if v3 = 0 then
    am_bd (g_Mo_isLess x0 x4 σ3) fun v7 σ7 =>
    if v7 = 0 then
      g_Mo_isWithin_21 σ7
    else
      g_Mo_isWithin_22 (1) σ7
  else
    g_Mo_isWithin_21 σ3
set_option maxHeartbeats 4000000 in
theorem t_Mo_isWithin_0 {x0 : Int64} {x2 : Int64} {x4 : Int64} {σ σ' : am_S} {r : Int32} (h : g_Mo_isWithin x0 x2 x4 σ = some (r, σ')) : am_A S_m M_Mo_isWithin (0, [some (.long x0), none, some (.long x2), none, some (.long x4), none], [], σ) (am_r S_m (fun q τ => q = some (.int r) ∧ τ = σ')) := by
  unfold g_Mo_isWithin at h
  refine a_lload_n i_Mo_isWithin_0 rfl ?_
  refine a_lload_n i_Mo_isWithin_1 rfl ?_
  obtain ⟨v3, σ3, e3, h⟩ := am_bd_some h
  refine am_csd (rest := []) [.long x0, .long x2] c_Mo_isWithin_2 rfl (Nat.le_of_ble_eq_true rfl) (t_Mo_isLess e3) ?_
  by_cases c4 : v3 = 0
  · rw [if_pos c4] at h
    refine a_iff i_Mo_isWithin_5 c4 ?_
    refine a_lload_n i_Mo_isWithin_8 rfl ?_
    refine a_lload i_Mo_isWithin_9 rfl ?_
    obtain ⟨v7, σ7, e7, h⟩ := am_bd_some h
    refine am_csd (rest := []) [.long x0, .long x4] c_Mo_isWithin_11 rfl (Nat.le_of_ble_eq_true rfl) (t_Mo_isLess e7) ?_
    by_cases c8 : v7 = 0
    · rw [if_pos c8] at h
      refine a_ift i_Mo_isWithin_14 c8 ?_
      exact am_wk (t_Mo_isWithin_21 h) ⟨Or.inl rfl, Or.inl rfl, Or.inl rfl, Or.inl rfl, Or.inl rfl, Or.inl rfl, trivial⟩
    · rw [if_neg c8] at h
      refine a_iff i_Mo_isWithin_14 c8 ?_
      refine a_iconst i_Mo_isWithin_17 ?_
      refine a_goto i_Mo_isWithin_18 ?_
      exact am_wk (t_Mo_isWithin_22 h) ⟨Or.inl rfl, Or.inl rfl, Or.inl rfl, Or.inl rfl, Or.inl rfl, Or.inl rfl, trivial⟩
  · rw [if_neg c4] at h
    refine a_ift i_Mo_isWithin_5 c4 ?_
    exact am_wk (t_Mo_isWithin_21 h) ⟨Or.inl rfl, Or.inl rfl, Or.inl rfl, Or.inl rfl, Or.inl rfl, Or.inl rfl, trivial⟩
theorem t_Mo_isWithin {x0 : Int64} {x2 : Int64} {x4 : Int64} {σ σ' : am_S} {r : Int32} (h : g_Mo_isWithin x0 x2 x4 σ = some (r, σ')) : am_Mt S_m M_Mo_isWithin [.long x0, .long x2, .long x4] σ (fun q τ => q = some (.int r) ∧ τ = σ') :=
  am_M_of ok_Mo_isWithin (Nat.le_of_ble_eq_true rfl) (t_Mo_isWithin_0 h)
def g_Mo_holds_52 (go : Int32 → Int32 → Int32 → am_S → Option (Int32 × am_S)) (x1 : Int32) (x3 : Int32) (y0 : Int32) (σ : am_S) : Option (Int32 × am_S) :=
  go x1 y0 (x3 + 1) σ
set_option maxHeartbeats 4000000 in
theorem t_Mo_holds_52 {x1 : Int32} {x3 : Int32} {y0 : Int32} {σ σ' : am_S} {r : Int32} {go : Int32 → Int32 → Int32 → am_S → Option (Int32 × am_S)} (hgo : ∀ {x1 : Int32} {x2 : Int32} {x3 : Int32} {σ σ' : am_S} {r : Int32}, go x1 x2 x3 σ = some (r, σ') → am_A S_m M_Mo_holds (9, [some (.ref 0), some (.int x1), some (.int x2), some (.int x3)], [], σ) (am_r S_m (fun q τ => q = some (.int r) ∧ τ = σ'))) (h : g_Mo_holds_52 go x1 x3 y0 σ = some (r, σ')) : am_A S_m M_Mo_holds (52, [some (.ref 0), some (.int x1), none, some (.int x3)], [.int y0], σ) (am_r S_m (fun q τ => q = some (.int r) ∧ τ = σ')) := by
  unfold g_Mo_holds_52 at h
  refine a_istore_n i_Mo_holds_52 rfl ?_
  refine a_iinc i_Mo_holds_53 rfl rfl ?_
  refine a_goto i_Mo_holds_56 ?_
  exact hgo h
def g_Mo_holds_47 (go : Int32 → Int32 → Int32 → am_S → Option (Int32 × am_S)) (x1 : Int32) (x3 : Int32) (σ : am_S) : Option (Int32 × am_S) :=
  g_Mo_holds_52 go x1 x3 (1) σ
set_option maxHeartbeats 4000000 in
theorem t_Mo_holds_47 {x1 : Int32} {x3 : Int32} {σ σ' : am_S} {r : Int32} {go : Int32 → Int32 → Int32 → am_S → Option (Int32 × am_S)} (hgo : ∀ {x1 : Int32} {x2 : Int32} {x3 : Int32} {σ σ' : am_S} {r : Int32}, go x1 x2 x3 σ = some (r, σ') → am_A S_m M_Mo_holds (9, [some (.ref 0), some (.int x1), some (.int x2), some (.int x3)], [], σ) (am_r S_m (fun q τ => q = some (.int r) ∧ τ = σ'))) (h : g_Mo_holds_47 go x1 x3 σ = some (r, σ')) : am_A S_m M_Mo_holds (47, [some (.ref 0), some (.int x1), none, some (.int x3)], [], σ) (am_r S_m (fun q τ => q = some (.int r) ∧ τ = σ')) := by
  unfold g_Mo_holds_47 at h
  refine a_iconst i_Mo_holds_47 ?_
  refine a_goto i_Mo_holds_48 ?_
  exact t_Mo_holds_52 hgo h
def g_Mo_holds_9 : Nat → Int32 → Int32 → Int32 → am_S → Option (Int32 × am_S)
  | 0, _, _, _, _ => none
  | n + 1, x1, x2, x3, σ =>
  am_gd (inb (x1 + 1) 201) <|
  if x3 < (σ.2.1 22 (x1 + 1).toNatClampNeg) then
    if x2 = 0 then
      am_gd (inb x3 300) <|
      am_gd (inb x3 300) <|
      am_bd (g_Mo_isWithin (σ.1.2 0 59) (σ.2.2 23 x3.toNatClampNeg) (σ.2.2 24 x3.toNatClampNeg) σ) fun v21 σ21 =>
      if v21 = 0 then
        g_Mo_holds_52 (g_Mo_holds_9 n) x1 x3 (0) σ21
      else
        g_Mo_holds_47 (g_Mo_holds_9 n) x1 x3 σ21
    else
      g_Mo_holds_47 (g_Mo_holds_9 n) x1 x3 σ
  else
    am_gd (z01 x2) <|
    some (x2, σ)
set_option maxHeartbeats 4000000 in
theorem t_Mo_holds_9 : ∀ (n : Nat) {x1 : Int32} {x2 : Int32} {x3 : Int32} {σ σ' : am_S} {r : Int32} (h : g_Mo_holds_9 n x1 x2 x3 σ = some (r, σ')), am_A S_m M_Mo_holds (9, [some (.ref 0), some (.int x1), some (.int x2), some (.int x3)], [], σ) (am_r S_m (fun q τ => q = some (.int r) ∧ τ = σ')) := by
  intro n
  induction n with
  | zero =>
    intro x1 x2 x3 σ σ' r h
    cases h
  | succ n ih =>
  intro x1 x2 x3 σ σ' r h
  unfold g_Mo_holds_9 at h
  refine a_iload_n i_Mo_holds_9 rfl ?_
  refine a_aload_n i_Mo_holds_10 rfl ?_
  refine a_get (v := .ref 22) i_Mo_holds_11 rfl rfl ?_
  refine a_iload_n i_Mo_holds_14 rfl ?_
  refine a_iconst i_Mo_holds_15 ?_
  refine a_iadd i_Mo_holds_16 ?_
  obtain ⟨c7, h⟩ := gd_some h
  refine a_ial (n := 201) i_Mo_holds_17 (by decide) rfl rfl (inb_in c7) ?_
  by_cases c8 : x3 < (σ.2.1 22 (x1 + 1).toNatClampNeg)
  · rw [if_pos c8] at h
    refine a_icf i_Mo_holds_18 (Int32.not_le.mpr c8) ?_
    refine a_iload_n i_Mo_holds_21 rfl ?_
    by_cases c10 : x2 = 0
    · rw [if_pos c10] at h
      refine a_iff i_Mo_holds_22 c10 ?_
      refine a_aload_n i_Mo_holds_25 rfl ?_
      refine a_get (v := .long (σ.1.2 0 59)) i_Mo_holds_26 rfl rfl ?_
      refine a_aload_n i_Mo_holds_29 rfl ?_
      refine a_get (v := .ref 23) i_Mo_holds_30 rfl rfl ?_
      refine a_iload_n i_Mo_holds_33 rfl ?_
      obtain ⟨c16, h⟩ := gd_some h
      refine a_lal (n := 300) i_Mo_holds_34 rfl rfl (inb_in c16) ?_
      refine a_aload_n i_Mo_holds_35 rfl ?_
      refine a_get (v := .ref 24) i_Mo_holds_36 rfl rfl ?_
      refine a_iload_n i_Mo_holds_39 rfl ?_
      obtain ⟨c20, h⟩ := gd_some h
      refine a_lal (n := 300) i_Mo_holds_40 rfl rfl (inb_in c20) ?_
      obtain ⟨v21, σ21, e21, h⟩ := am_bd_some h
      refine am_csd (rest := []) [.long (σ.1.2 0 59), .long (σ.2.2 23 x3.toNatClampNeg), .long (σ.2.2 24 x3.toNatClampNeg)] c_Mo_holds_41 rfl (Nat.le_of_ble_eq_true rfl) (t_Mo_isWithin e21) ?_
      by_cases c22 : v21 = 0
      · rw [if_pos c22] at h
        refine a_ift i_Mo_holds_44 c22 ?_
        refine a_iconst i_Mo_holds_51 ?_
        exact am_wk (t_Mo_holds_52 (fun h => ih h) h) ⟨Or.inr rfl, Or.inr rfl, Or.inl rfl, Or.inr rfl, trivial⟩
      · rw [if_neg c22] at h
        refine a_iff i_Mo_holds_44 c22 ?_
        exact am_wk (t_Mo_holds_47 (fun h => ih h) h) ⟨Or.inr rfl, Or.inr rfl, Or.inl rfl, Or.inr rfl, trivial⟩
    · rw [if_neg c10] at h
      refine a_ift i_Mo_holds_22 c10 ?_
      exact am_wk (t_Mo_holds_47 (fun h => ih h) h) ⟨Or.inr rfl, Or.inr rfl, Or.inl rfl, Or.inr rfl, trivial⟩
  · rw [if_neg c8] at h
    refine a_ict i_Mo_holds_18 (Int32.not_lt.mp c8) ?_
    refine a_iload_n i_Mo_holds_59 rfl ?_
    obtain ⟨c10, h⟩ := gd_some h
    exact am_ret_z ok_Mo_holds rfl rfl (z01_or c10) (am_lf_i h)
def g_Mo_holds (x1 : Int32) (σ : am_S) : Option (Int32 × am_S) :=
  am_gd (inb x1 201) <|
  g_Mo_holds_9 4000 x1 (0) (σ.2.1 22 x1.toNatClampNeg) σ
set_option maxHeartbeats 4000000 in
theorem t_Mo_holds_0 {x1 : Int32} {σ σ' : am_S} {r : Int32} (h : g_Mo_holds x1 σ = some (r, σ')) : am_A S_m M_Mo_holds (0, [some (.ref 0), some (.int x1), none, none], [], σ) (am_r S_m (fun q τ => q = some (.int r) ∧ τ = σ')) := by
  unfold g_Mo_holds at h
  refine a_iconst i_Mo_holds_0 ?_
  refine a_istore_n i_Mo_holds_1 rfl ?_
  refine a_aload_n i_Mo_holds_2 rfl ?_
  refine a_get (v := .ref 22) i_Mo_holds_3 rfl rfl ?_
  refine a_iload_n i_Mo_holds_6 rfl ?_
  obtain ⟨c6, h⟩ := gd_some h
  refine a_ial (n := 201) i_Mo_holds_7 (by decide) rfl rfl (inb_in c6) ?_
  refine a_istore_n i_Mo_holds_8 rfl ?_
  exact t_Mo_holds_9 4000 h
theorem t_Mo_holds {x1 : Int32} {σ σ' : am_S} {r : Int32} (h : g_Mo_holds x1 σ = some (r, σ')) : am_Mt S_m M_Mo_holds [.ref 0, .int x1] σ (fun q τ => q = some (.int r) ∧ τ = σ') :=
  am_M_of ok_Mo_holds (Nat.le_of_ble_eq_true rfl) (t_Mo_holds_0 h)
def g_Mo_letsPass_40 (y0 : Int32) (σ : am_S) : Option (Int32 × am_S) :=
  am_gd (z01 y0) <|
  some (y0, σ)
set_option maxHeartbeats 4000000 in
theorem t_Mo_letsPass_40 {y0 : Int32} {σ σ' : am_S} {r : Int32} (h : g_Mo_letsPass_40 y0 σ = some (r, σ')) : am_A S_m M_Mo_letsPass (40, [none, none], [.int y0], σ) (am_r S_m (fun q τ => q = some (.int r) ∧ τ = σ')) := by
  unfold g_Mo_letsPass_40 at h
  obtain ⟨c1, h⟩ := gd_some h
  exact am_ret_z ok_Mo_letsPass rfl rfl (z01_or c1) (am_lf_i h)
def g_Mo_letsPass_35 (σ : am_S) : Option (Int32 × am_S) :=
  g_Mo_letsPass_40 (1) σ
set_option maxHeartbeats 4000000 in
theorem t_Mo_letsPass_35 {σ σ' : am_S} {r : Int32} (h : g_Mo_letsPass_35 σ = some (r, σ')) : am_A S_m M_Mo_letsPass (35, [none, none], [], σ) (am_r S_m (fun q τ => q = some (.int r) ∧ τ = σ')) := by
  unfold g_Mo_letsPass_35 at h
  refine a_iconst i_Mo_letsPass_35 ?_
  refine a_goto i_Mo_letsPass_36 ?_
  exact t_Mo_letsPass_40 h
def g_Mo_letsPass_39 (σ : am_S) : Option (Int32 × am_S) :=
  g_Mo_letsPass_40 (0) σ
set_option maxHeartbeats 4000000 in
theorem t_Mo_letsPass_39 {σ σ' : am_S} {r : Int32} (h : g_Mo_letsPass_39 σ = some (r, σ')) : am_A S_m M_Mo_letsPass (39, [none, none], [], σ) (am_r S_m (fun q τ => q = some (.int r) ∧ τ = σ')) := by
  unfold g_Mo_letsPass_39 at h
  refine a_iconst i_Mo_letsPass_39 ?_
  exact t_Mo_letsPass_40 h
def g_Mo_letsPass (x1 : Int32) (σ : am_S) : Option (Int32 × am_S) :=
  am_bd (g_Mo_holds x1 σ) fun v3 σ3 =>
  if v3 = 0 then
    am_bd (g_Mo_has x1 (3) σ3) fun v8 σ8 =>
    if v8 = 0 then
      am_bd (g_Mo_has x1 (1) σ8) fun v13 σ13 =>
      if v13 = 0 then
        g_Mo_letsPass_35 σ13
      else
        am_bd (g_Mo_has x1 (2) σ13) fun v18 σ18 =>
        if v18 = 0 then
          g_Mo_letsPass_35 σ18
        else
          g_Mo_letsPass_39 σ18
    else
      g_Mo_letsPass_39 σ8
  else
    g_Mo_letsPass_35 σ3
set_option maxHeartbeats 4000000 in
theorem t_Mo_letsPass_0 {x1 : Int32} {σ σ' : am_S} {r : Int32} (h : g_Mo_letsPass x1 σ = some (r, σ')) : am_A S_m M_Mo_letsPass (0, [some (.ref 0), some (.int x1)], [], σ) (am_r S_m (fun q τ => q = some (.int r) ∧ τ = σ')) := by
  unfold g_Mo_letsPass at h
  refine a_aload_n i_Mo_letsPass_0 rfl ?_
  refine a_iload_n i_Mo_letsPass_1 rfl ?_
  obtain ⟨v3, σ3, e3, h⟩ := am_bd_some h
  refine am_cvd (rest := []) [.int x1] c_Mo_letsPass_2 ⟨by decide, _, rfl⟩ rfl (Nat.le_of_ble_eq_true rfl) (t_Mo_holds e3) ?_
  by_cases c4 : v3 = 0
  · rw [if_pos c4] at h
    refine a_iff i_Mo_letsPass_5 c4 ?_
    refine a_aload_n i_Mo_letsPass_8 rfl ?_
    refine a_iload_n i_Mo_letsPass_9 rfl ?_
    refine a_iconst i_Mo_letsPass_10 ?_
    obtain ⟨v8, σ8, e8, h⟩ := am_bd_some h
    refine am_cvd (rest := []) [.int x1, .int 3] c_Mo_letsPass_11 ⟨by decide, _, rfl⟩ rfl (Nat.le_of_ble_eq_true rfl) (t_Mo_has e8) ?_
    by_cases c9 : v8 = 0
    · rw [if_pos c9] at h
      refine a_iff i_Mo_letsPass_14 c9 ?_
      refine a_aload_n i_Mo_letsPass_17 rfl ?_
      refine a_iload_n i_Mo_letsPass_18 rfl ?_
      refine a_iconst i_Mo_letsPass_19 ?_
      obtain ⟨v13, σ13, e13, h⟩ := am_bd_some h
      refine am_cvd (rest := []) [.int x1, .int 1] c_Mo_letsPass_20 ⟨by decide, _, rfl⟩ rfl (Nat.le_of_ble_eq_true rfl) (t_Mo_has e13) ?_
      by_cases c14 : v13 = 0
      · rw [if_pos c14] at h
        refine a_ift i_Mo_letsPass_23 c14 ?_
        exact am_wk (t_Mo_letsPass_35 h) ⟨Or.inl rfl, Or.inl rfl, trivial⟩
      · rw [if_neg c14] at h
        refine a_iff i_Mo_letsPass_23 c14 ?_
        refine a_aload_n i_Mo_letsPass_26 rfl ?_
        refine a_iload_n i_Mo_letsPass_27 rfl ?_
        refine a_iconst i_Mo_letsPass_28 ?_
        obtain ⟨v18, σ18, e18, h⟩ := am_bd_some h
        refine am_cvd (rest := []) [.int x1, .int 2] c_Mo_letsPass_29 ⟨by decide, _, rfl⟩ rfl (Nat.le_of_ble_eq_true rfl) (t_Mo_has e18) ?_
        by_cases c19 : v18 = 0
        · rw [if_pos c19] at h
          refine a_iff i_Mo_letsPass_32 c19 ?_
          exact am_wk (t_Mo_letsPass_35 h) ⟨Or.inl rfl, Or.inl rfl, trivial⟩
        · rw [if_neg c19] at h
          refine a_ift i_Mo_letsPass_32 c19 ?_
          exact am_wk (t_Mo_letsPass_39 h) ⟨Or.inl rfl, Or.inl rfl, trivial⟩
    · rw [if_neg c9] at h
      refine a_ift i_Mo_letsPass_14 c9 ?_
      exact am_wk (t_Mo_letsPass_39 h) ⟨Or.inl rfl, Or.inl rfl, trivial⟩
  · rw [if_neg c4] at h
    refine a_ift i_Mo_letsPass_5 c4 ?_
    exact am_wk (t_Mo_letsPass_35 h) ⟨Or.inl rfl, Or.inl rfl, trivial⟩
theorem t_Mo_letsPass {x1 : Int32} {σ σ' : am_S} {r : Int32} (h : g_Mo_letsPass x1 σ = some (r, σ')) : am_Mt S_m M_Mo_letsPass [.ref 0, .int x1] σ (fun q τ => q = some (.int r) ∧ τ = σ') :=
  am_M_of ok_Mo_letsPass (Nat.le_of_ble_eq_true rfl) (t_Mo_letsPass_0 h)
def g_Mo_isUnder_56 (y0 : Int32) (σ : am_S) : Option (Int32 × am_S) :=
  am_gd (z01 y0) <|
  some (y0, σ)
set_option maxHeartbeats 4000000 in
theorem t_Mo_isUnder_56 {y0 : Int32} {σ σ' : am_S} {r : Int32} (h : g_Mo_isUnder_56 y0 σ = some (r, σ')) : am_A S_m M_Mo_isUnder (56, [none, none, none, none], [.int y0], σ) (am_r S_m (fun q τ => q = some (.int r) ∧ τ = σ')) := by
  unfold g_Mo_isUnder_56 at h
  obtain ⟨c1, h⟩ := gd_some h
  exact am_ret_z ok_Mo_isUnder rfl rfl (z01_or c1) (am_lf_i h)
def g_Mo_isUnder_46 (x2 : Int32) (x3 : Int32) (σ : am_S) : Option (Int32 × am_S) :=
  if x3 = x2 then
    g_Mo_isUnder_56 (1) σ
  else
    g_Mo_isUnder_56 (0) σ
set_option maxHeartbeats 4000000 in
theorem t_Mo_isUnder_46 {x2 : Int32} {x3 : Int32} {σ σ' : am_S} {r : Int32} (h : g_Mo_isUnder_46 x2 x3 σ = some (r, σ')) : am_A S_m M_Mo_isUnder (46, [none, none, some (.int x2), some (.int x3)], [], σ) (am_r S_m (fun q τ => q = some (.int r) ∧ τ = σ')) := by
  unfold g_Mo_isUnder_46 at h
  refine a_iload_n i_Mo_isUnder_46 rfl ?_
  refine a_iload_n i_Mo_isUnder_47 rfl ?_
  by_cases c3 : x3 = x2
  · rw [if_pos c3] at h
    refine a_icf i_Mo_isUnder_48 c3 ?_
    refine a_iconst i_Mo_isUnder_51 ?_
    refine a_goto i_Mo_isUnder_52 ?_
    exact am_wk (t_Mo_isUnder_56 h) ⟨Or.inl rfl, Or.inl rfl, Or.inl rfl, Or.inl rfl, trivial⟩
  · rw [if_neg c3] at h
    refine a_ict i_Mo_isUnder_48 c3 ?_
    refine a_iconst i_Mo_isUnder_55 ?_
    exact am_wk (t_Mo_isUnder_56 h) ⟨Or.inl rfl, Or.inl rfl, Or.inl rfl, Or.inl rfl, trivial⟩
def g_Mo_isUnder_7 : Nat → Int32 → Int32 → am_S → Option (Int32 × am_S)
  | 0, _, _, _ => none
  | n + 1, x2, x3, σ =>
  if x3 = x2 then
    g_Mo_isUnder_46 x2 x3 σ
  else
    if x3 = (-1) then
      g_Mo_isUnder_46 x2 x3 σ
    else
      am_gd (inb x3 200) <|
      if (σ.2.1 17 x3.toNatClampNeg) = 11 then
        am_bd (g_Mo_letsPass x3 σ) fun v15 σ15 =>
        if v15 = 0 then
          g_Mo_isUnder_46 x2 x3 σ15
        else
          am_gd (inb x3 200) <|
          g_Mo_isUnder_7 n x2 (σ15.2.1 18 x3.toNatClampNeg) σ15
      else
        g_Mo_isUnder_46 x2 x3 σ
set_option maxHeartbeats 4000000 in
theorem t_Mo_isUnder_7 : ∀ (n : Nat) {x2 : Int32} {x3 : Int32} {σ σ' : am_S} {r : Int32} (h : g_Mo_isUnder_7 n x2 x3 σ = some (r, σ')), am_A S_m M_Mo_isUnder (7, [some (.ref 0), none, some (.int x2), some (.int x3)], [], σ) (am_r S_m (fun q τ => q = some (.int r) ∧ τ = σ')) := by
  intro n
  induction n with
  | zero =>
    intro x2 x3 σ σ' r h
    cases h
  | succ n ih =>
  intro x2 x3 σ σ' r h
  unfold g_Mo_isUnder_7 at h
  refine a_iload_n i_Mo_isUnder_7 rfl ?_
  refine a_iload_n i_Mo_isUnder_8 rfl ?_
  by_cases c3 : x3 = x2
  · rw [if_pos c3] at h
    refine a_ict i_Mo_isUnder_9 c3 ?_
    exact am_wk (t_Mo_isUnder_46 h) ⟨Or.inl rfl, Or.inl rfl, Or.inr rfl, Or.inr rfl, trivial⟩
  · rw [if_neg c3] at h
    refine a_icf i_Mo_isUnder_9 c3 ?_
    refine a_iload_n i_Mo_isUnder_12 rfl ?_
    refine a_iconst i_Mo_isUnder_13 ?_
    by_cases c6 : x3 = (-1)
    · rw [if_pos c6] at h
      refine a_ict i_Mo_isUnder_14 c6 ?_
      exact am_wk (t_Mo_isUnder_46 h) ⟨Or.inl rfl, Or.inl rfl, Or.inr rfl, Or.inr rfl, trivial⟩
    · rw [if_neg c6] at h
      refine a_icf i_Mo_isUnder_14 c6 ?_
      refine a_aload_n i_Mo_isUnder_17 rfl ?_
      refine a_get (v := .ref 17) i_Mo_isUnder_18 rfl rfl ?_
      refine a_iload_n i_Mo_isUnder_21 rfl ?_
      obtain ⟨c10, h⟩ := gd_some h
      refine a_ial (n := 200) i_Mo_isUnder_22 (by decide) rfl rfl (inb_in c10) ?_
      refine a_bipush i_Mo_isUnder_23 ?_
      by_cases c12 : (σ.2.1 17 x3.toNatClampNeg) = 11
      · rw [if_pos c12] at h
        refine a_icf i_Mo_isUnder_25 c12 ?_
        refine a_aload_n i_Mo_isUnder_28 rfl ?_
        refine a_iload_n i_Mo_isUnder_29 rfl ?_
        obtain ⟨v15, σ15, e15, h⟩ := am_bd_some h
        refine am_cvd (rest := []) [.int x3] c_Mo_isUnder_30 ⟨by decide, _, rfl⟩ rfl (Nat.le_of_ble_eq_true rfl) (t_Mo_letsPass e15) ?_
        by_cases c16 : v15 = 0
        · rw [if_pos c16] at h
          refine a_ift i_Mo_isUnder_33 c16 ?_
          exact am_wk (t_Mo_isUnder_46 h) ⟨Or.inl rfl, Or.inl rfl, Or.inr rfl, Or.inr rfl, trivial⟩
        · rw [if_neg c16] at h
          refine a_iff i_Mo_isUnder_33 c16 ?_
          refine a_aload_n i_Mo_isUnder_36 rfl ?_
          refine a_get (v := .ref 18) i_Mo_isUnder_37 rfl rfl ?_
          refine a_iload_n i_Mo_isUnder_40 rfl ?_
          obtain ⟨c20, h⟩ := gd_some h
          refine a_ial (n := 200) i_Mo_isUnder_41 (by decide) rfl rfl (inb_in c20) ?_
          refine a_istore_n i_Mo_isUnder_42 rfl ?_
          refine a_goto i_Mo_isUnder_43 ?_
          exact ih h
      · rw [if_neg c12] at h
        refine a_ict i_Mo_isUnder_25 c12 ?_
        exact am_wk (t_Mo_isUnder_46 h) ⟨Or.inl rfl, Or.inl rfl, Or.inr rfl, Or.inr rfl, trivial⟩
def g_Mo_isUnder (x1 : Int32) (x2 : Int32) (σ : am_S) : Option (Int32 × am_S) :=
  am_gd (inb x1 200) <|
  g_Mo_isUnder_7 4000 x2 (σ.2.1 18 x1.toNatClampNeg) σ
set_option maxHeartbeats 4000000 in
theorem t_Mo_isUnder_0 {x1 : Int32} {x2 : Int32} {σ σ' : am_S} {r : Int32} (h : g_Mo_isUnder x1 x2 σ = some (r, σ')) : am_A S_m M_Mo_isUnder (0, [some (.ref 0), some (.int x1), some (.int x2), none], [], σ) (am_r S_m (fun q τ => q = some (.int r) ∧ τ = σ')) := by
  unfold g_Mo_isUnder at h
  refine a_aload_n i_Mo_isUnder_0 rfl ?_
  refine a_get (v := .ref 18) i_Mo_isUnder_1 rfl rfl ?_
  refine a_iload_n i_Mo_isUnder_4 rfl ?_
  obtain ⟨c4, h⟩ := gd_some h
  refine a_ial (n := 200) i_Mo_isUnder_5 (by decide) rfl rfl (inb_in c4) ?_
  refine a_istore_n i_Mo_isUnder_6 rfl ?_
  exact am_wk (t_Mo_isUnder_7 4000 h) ⟨Or.inr rfl, Or.inl rfl, Or.inr rfl, Or.inr rfl, trivial⟩
theorem t_Mo_isUnder {x1 : Int32} {x2 : Int32} {σ σ' : am_S} {r : Int32} (h : g_Mo_isUnder x1 x2 σ = some (r, σ')) : am_Mt S_m M_Mo_isUnder [.ref 0, .int x1, .int x2] σ (fun q τ => q = some (.int r) ∧ τ = σ') :=
  am_M_of ok_Mo_isUnder (Nat.le_of_ble_eq_true rfl) (t_Mo_isUnder_0 h)
def g_Mo_first_42 (x3 : Int32) (σ : am_S) : Option (Int32 × am_S) :=
  some (x3, σ)
set_option maxHeartbeats 4000000 in
theorem t_Mo_first_42 {x3 : Int32} {σ σ' : am_S} {r : Int32} (h : g_Mo_first_42 x3 σ = some (r, σ')) : am_A S_m M_Mo_first (42, [none, none, none, some (.int x3)], [], σ) (am_r S_m (fun q τ => q = some (.int r) ∧ τ = σ')) := by
  unfold g_Mo_first_42 at h
  refine a_iload_n i_Mo_first_42 rfl ?_
  exact am_ret_i ok_Mo_first rfl rfl (am_lf_i h)
def g_Mo_first_44 (go : Int32 → Int32 → Int32 → am_S → Option (Int32 × am_S)) (x1 : Int32) (x2 : Int32) (x3 : Int32) (σ : am_S) : Option (Int32 × am_S) :=
  go x1 x2 (x3 + 1) σ
set_option maxHeartbeats 4000000 in
theorem t_Mo_first_44 {x1 : Int32} {x2 : Int32} {x3 : Int32} {σ σ' : am_S} {r : Int32} {go : Int32 → Int32 → Int32 → am_S → Option (Int32 × am_S)} (hgo : ∀ {x1 : Int32} {x2 : Int32} {x3 : Int32} {σ σ' : am_S} {r : Int32}, go x1 x2 x3 σ = some (r, σ') → am_A S_m M_Mo_first (2, [some (.ref 0), some (.int x1), some (.int x2), some (.int x3)], [], σ) (am_r S_m (fun q τ => q = some (.int r) ∧ τ = σ'))) (h : g_Mo_first_44 go x1 x2 x3 σ = some (r, σ')) : am_A S_m M_Mo_first (44, [some (.ref 0), some (.int x1), some (.int x2), some (.int x3)], [], σ) (am_r S_m (fun q τ => q = some (.int r) ∧ τ = σ')) := by
  unfold g_Mo_first_44 at h
  refine a_iinc i_Mo_first_44 rfl rfl ?_
  refine a_goto i_Mo_first_47 ?_
  exact hgo h
def g_Mo_first_2 : Nat → Int32 → Int32 → Int32 → am_S → Option (Int32 × am_S)
  | 0, _, _, _, _ => none
  | n + 1, x1, x2, x3, σ =>
  if x3 < (σ.1.1 0 22) then
    am_gd (inb x3 200) <|
    if (σ.2.1 17 x3.toNatClampNeg) = x1 then
      am_bd (g_Mo_holds x3 σ) fun v13 σ13 =>
      if v13 = 0 then
        g_Mo_first_44 (g_Mo_first_2 n) x1 x2 x3 σ13
      else
        if x2 = (-1) then
          g_Mo_first_42 x3 σ13
        else
          am_bd (g_Mo_isUnder x3 x2 σ13) fun v21 σ21 =>
          if v21 = 0 then
            g_Mo_first_44 (g_Mo_first_2 n) x1 x2 x3 σ21
          else
            g_Mo_first_42 x3 σ21
    else
      g_Mo_first_44 (g_Mo_first_2 n) x1 x2 x3 σ
  else
    some ((-1), σ)
set_option maxHeartbeats 4000000 in
theorem t_Mo_first_2 : ∀ (n : Nat) {x1 : Int32} {x2 : Int32} {x3 : Int32} {σ σ' : am_S} {r : Int32} (h : g_Mo_first_2 n x1 x2 x3 σ = some (r, σ')), am_A S_m M_Mo_first (2, [some (.ref 0), some (.int x1), some (.int x2), some (.int x3)], [], σ) (am_r S_m (fun q τ => q = some (.int r) ∧ τ = σ')) := by
  intro n
  induction n with
  | zero =>
    intro x1 x2 x3 σ σ' r h
    cases h
  | succ n ih =>
  intro x1 x2 x3 σ σ' r h
  unfold g_Mo_first_2 at h
  refine a_iload_n i_Mo_first_2 rfl ?_
  refine a_aload_n i_Mo_first_3 rfl ?_
  refine a_get (v := .int (σ.1.1 0 22)) i_Mo_first_4 rfl rfl ?_
  by_cases c4 : x3 < (σ.1.1 0 22)
  · rw [if_pos c4] at h
    refine a_icf i_Mo_first_7 (Int32.not_le.mpr c4) ?_
    refine a_aload_n i_Mo_first_10 rfl ?_
    refine a_get (v := .ref 17) i_Mo_first_11 rfl rfl ?_
    refine a_iload_n i_Mo_first_14 rfl ?_
    obtain ⟨c8, h⟩ := gd_some h
    refine a_ial (n := 200) i_Mo_first_15 (by decide) rfl rfl (inb_in c8) ?_
    refine a_iload_n i_Mo_first_16 rfl ?_
    by_cases c10 : (σ.2.1 17 x3.toNatClampNeg) = x1
    · rw [if_pos c10] at h
      refine a_icf i_Mo_first_17 c10 ?_
      refine a_aload_n i_Mo_first_20 rfl ?_
      refine a_iload_n i_Mo_first_21 rfl ?_
      obtain ⟨v13, σ13, e13, h⟩ := am_bd_some h
      refine am_cvd (rest := []) [.int x3] c_Mo_first_22 ⟨by decide, _, rfl⟩ rfl (Nat.le_of_ble_eq_true rfl) (t_Mo_holds e13) ?_
      by_cases c14 : v13 = 0
      · rw [if_pos c14] at h
        refine a_ift i_Mo_first_25 c14 ?_
        exact t_Mo_first_44 (fun h => ih h) h
      · rw [if_neg c14] at h
        refine a_iff i_Mo_first_25 c14 ?_
        refine a_iload_n i_Mo_first_28 rfl ?_
        refine a_iconst i_Mo_first_29 ?_
        by_cases c17 : x2 = (-1)
        · rw [if_pos c17] at h
          refine a_ict i_Mo_first_30 c17 ?_
          exact am_wk (t_Mo_first_42 h) ⟨Or.inl rfl, Or.inl rfl, Or.inl rfl, Or.inr rfl, trivial⟩
        · rw [if_neg c17] at h
          refine a_icf i_Mo_first_30 c17 ?_
          refine a_aload_n i_Mo_first_33 rfl ?_
          refine a_iload_n i_Mo_first_34 rfl ?_
          refine a_iload_n i_Mo_first_35 rfl ?_
          obtain ⟨v21, σ21, e21, h⟩ := am_bd_some h
          refine am_cvd (rest := []) [.int x3, .int x2] c_Mo_first_36 ⟨by decide, _, rfl⟩ rfl (Nat.le_of_ble_eq_true rfl) (t_Mo_isUnder e21) ?_
          by_cases c22 : v21 = 0
          · rw [if_pos c22] at h
            refine a_ift i_Mo_first_39 c22 ?_
            exact t_Mo_first_44 (fun h => ih h) h
          · rw [if_neg c22] at h
            refine a_iff i_Mo_first_39 c22 ?_
            exact am_wk (t_Mo_first_42 h) ⟨Or.inl rfl, Or.inl rfl, Or.inl rfl, Or.inr rfl, trivial⟩
    · rw [if_neg c10] at h
      refine a_ict i_Mo_first_17 c10 ?_
      exact t_Mo_first_44 (fun h => ih h) h
  · rw [if_neg c4] at h
    refine a_ict i_Mo_first_7 (Int32.not_lt.mp c4) ?_
    refine a_iconst i_Mo_first_50 ?_
    exact am_ret_i ok_Mo_first rfl rfl (am_lf_i h)
def g_Mo_first (x1 : Int32) (x2 : Int32) (σ : am_S) : Option (Int32 × am_S) :=
  g_Mo_first_2 4000 x1 x2 (0) σ
set_option maxHeartbeats 4000000 in
theorem t_Mo_first_0 {x1 : Int32} {x2 : Int32} {σ σ' : am_S} {r : Int32} (h : g_Mo_first x1 x2 σ = some (r, σ')) : am_A S_m M_Mo_first (0, [some (.ref 0), some (.int x1), some (.int x2), none], [], σ) (am_r S_m (fun q τ => q = some (.int r) ∧ τ = σ')) := by
  unfold g_Mo_first at h
  refine a_iconst i_Mo_first_0 ?_
  refine a_istore_n i_Mo_first_1 rfl ?_
  exact t_Mo_first_2 4000 h
theorem t_Mo_first {x1 : Int32} {x2 : Int32} {σ σ' : am_S} {r : Int32} (h : g_Mo_first x1 x2 σ = some (r, σ')) : am_Mt S_m M_Mo_first [.ref 0, .int x1, .int x2] σ (fun q τ => q = some (.int r) ∧ τ = σ') :=
  am_M_of ok_Mo_first (Nat.le_of_ble_eq_true rfl) (t_Mo_first_0 h)
def g_Mo_symbol_74 (go : Int32 → am_S → Option (Int32 × am_S)) (x1 : Int32) (σ : am_S) : Option (Int32 × am_S) :=
  go (x1 + 1) σ
set_option maxHeartbeats 4000000 in
theorem t_Mo_symbol_74 {x1 : Int32} {σ σ' : am_S} {r : Int32} {go : Int32 → am_S → Option (Int32 × am_S)} (hgo : ∀ {x1 : Int32} {σ σ' : am_S} {r : Int32}, go x1 σ = some (r, σ') → am_A S_m M_Mo_symbol (2, [some (.ref 0), some (.int x1), none, none, none], [], σ) (am_r S_m (fun q τ => q = some (.int r) ∧ τ = σ'))) (h : g_Mo_symbol_74 go x1 σ = some (r, σ')) : am_A S_m M_Mo_symbol (74, [some (.ref 0), some (.int x1), none, none, none], [], σ) (am_r S_m (fun q τ => q = some (.int r) ∧ τ = σ')) := by
  unfold g_Mo_symbol_74 at h
  refine a_iinc i_Mo_symbol_74 rfl rfl ?_
  refine a_goto i_Mo_symbol_77 ?_
  exact hgo h
def g_Mo_symbol_2 : Nat → Int32 → am_S → Option (Int32 × am_S)
  | 0, _, _ => none
  | n + 1, x1, σ =>
  if x1 < (σ.1.1 0 54) then
    am_gd (inb 8 10) <|
    am_bd (g_Mo_peek (((σ.2.1 3 (8 : Int32).toNatClampNeg) + (24 * x1)) + 8) (8) σ) fun v19 σ19 =>
    am_gd (inb (((σ.2.1 3 (8 : Int32).toNatClampNeg) + (24 * x1)) + 4) 3000) <|
    if ((σ19.2.1 2 (((σ.2.1 3 (8 : Int32).toNatClampNeg) + (24 * x1)) + 4).toNatClampNeg) &&& 15) = 2 then
      am_bd (g_Mo_peek (((σ.2.1 3 (8 : Int32).toNatClampNeg) + (24 * x1)) + 16) (8) σ19) fun v40 σ40 =>
      am_bd (g_Mo_isWithin (σ19.1.2 0 59) v19 (v19 + v40) σ40) fun v42 σ42 =>
      if v42 = 0 then
        g_Mo_symbol_74 (g_Mo_symbol_2 n) x1 σ42
      else
        some (x1, σ42)
    else
      g_Mo_symbol_74 (g_Mo_symbol_2 n) x1 σ19
  else
    some ((-1), σ)
set_option maxHeartbeats 4000000 in
theorem t_Mo_symbol_2 : ∀ (n : Nat) {x1 : Int32} {σ σ' : am_S} {r : Int32} (h : g_Mo_symbol_2 n x1 σ = some (r, σ')), am_A S_m M_Mo_symbol (2, [some (.ref 0), some (.int x1), none, none, none], [], σ) (am_r S_m (fun q τ => q = some (.int r) ∧ τ = σ')) := by
  intro n
  induction n with
  | zero =>
    intro x1 σ σ' r h
    cases h
  | succ n ih =>
  intro x1 σ σ' r h
  unfold g_Mo_symbol_2 at h
  refine a_iload_n i_Mo_symbol_2 rfl ?_
  refine a_aload_n i_Mo_symbol_3 rfl ?_
  refine a_get (v := .int (σ.1.1 0 54)) i_Mo_symbol_4 rfl rfl ?_
  by_cases c4 : x1 < (σ.1.1 0 54)
  · rw [if_pos c4] at h
    refine a_icf i_Mo_symbol_7 (Int32.not_le.mpr c4) ?_
    refine a_aload_n i_Mo_symbol_10 rfl ?_
    refine a_get (v := .ref 3) i_Mo_symbol_11 rfl rfl ?_
    refine a_bipush i_Mo_symbol_14 ?_
    obtain ⟨c8, h⟩ := gd_some h
    refine a_ial (n := 10) i_Mo_symbol_16 (by decide) rfl rfl (inb_in c8) ?_
    refine a_bipush i_Mo_symbol_17 ?_
    refine a_iload_n i_Mo_symbol_19 rfl ?_
    refine a_imul i_Mo_symbol_20 ?_
    refine a_iadd i_Mo_symbol_21 ?_
    refine a_istore_n i_Mo_symbol_22 rfl ?_
    refine a_aload_n i_Mo_symbol_23 rfl ?_
    refine a_iload_n i_Mo_symbol_24 rfl ?_
    refine a_bipush i_Mo_symbol_25 ?_
    refine a_iadd i_Mo_symbol_27 ?_
    refine a_bipush i_Mo_symbol_28 ?_
    obtain ⟨v19, σ19, e19, h⟩ := am_bd_some h
    refine am_cvd (rest := []) [.int (((σ.2.1 3 (8 : Int32).toNatClampNeg) + (24 * x1)) + 8), .int 8] c_Mo_symbol_30 ⟨by decide, _, rfl⟩ rfl (Nat.le_of_ble_eq_true rfl) (t_Mo_peek e19) ?_
    refine a_lstore_n i_Mo_symbol_33 rfl ?_
    refine a_aload_n i_Mo_symbol_34 rfl ?_
    refine a_get (v := .ref 2) i_Mo_symbol_35 rfl rfl ?_
    refine a_iload_n i_Mo_symbol_38 rfl ?_
    refine a_iconst i_Mo_symbol_39 ?_
    refine a_iadd i_Mo_symbol_40 ?_
    obtain ⟨c26, h⟩ := gd_some h
    refine a_bal (n := 3000) i_Mo_symbol_41 rfl rfl (inb_in c26) ?_
    refine a_bipush i_Mo_symbol_42 ?_
    refine a_iand i_Mo_symbol_44 ?_
    refine a_iconst i_Mo_symbol_45 ?_
    by_cases c30 : ((σ19.2.1 2 (((σ.2.1 3 (8 : Int32).toNatClampNeg) + (24 * x1)) + 4).toNatClampNeg) &&& 15) = 2
    · rw [if_pos c30] at h
      refine a_icf i_Mo_symbol_46 c30 ?_
      refine a_aload_n i_Mo_symbol_49 rfl ?_
      refine a_get (v := .long (σ19.1.2 0 59)) i_Mo_symbol_50 rfl rfl ?_
      refine a_lload_n i_Mo_symbol_53 rfl ?_
      refine a_lload_n i_Mo_symbol_54 rfl ?_
      refine a_aload_n i_Mo_symbol_55 rfl ?_
      refine a_iload_n i_Mo_symbol_56 rfl ?_
      refine a_bipush i_Mo_symbol_57 ?_
      refine a_iadd i_Mo_symbol_59 ?_
      refine a_bipush i_Mo_symbol_60 ?_
      obtain ⟨v40, σ40, e40, h⟩ := am_bd_some h
      refine am_cvd (rest := [.long v19, .long v19, .long (σ19.1.2 0 59)]) [.int (((σ.2.1 3 (8 : Int32).toNatClampNeg) + (24 * x1)) + 16), .int 8] c_Mo_symbol_62 ⟨by decide, _, rfl⟩ rfl (Nat.le_of_ble_eq_true rfl) (t_Mo_peek e40) ?_
      refine a_ladd i_Mo_symbol_65 ?_
      obtain ⟨v42, σ42, e42, h⟩ := am_bd_some h
      refine am_csd (rest := []) [.long (σ19.1.2 0 59), .long v19, .long (v19 + v40)] c_Mo_symbol_66 rfl (Nat.le_of_ble_eq_true rfl) (t_Mo_isWithin e42) ?_
      by_cases c43 : v42 = 0
      · rw [if_pos c43] at h
        refine a_ift i_Mo_symbol_69 c43 ?_
        exact am_wk (t_Mo_symbol_74 (fun h => ih h) h) ⟨Or.inr rfl, Or.inr rfl, Or.inl rfl, Or.inl rfl, Or.inl rfl, trivial⟩
      · rw [if_neg c43] at h
        refine a_iff i_Mo_symbol_69 c43 ?_
        refine a_iload_n i_Mo_symbol_72 rfl ?_
        exact am_ret_i ok_Mo_symbol rfl rfl (am_lf_i h)
    · rw [if_neg c30] at h
      refine a_ict i_Mo_symbol_46 c30 ?_
      exact am_wk (t_Mo_symbol_74 (fun h => ih h) h) ⟨Or.inr rfl, Or.inr rfl, Or.inl rfl, Or.inl rfl, Or.inl rfl, trivial⟩
  · rw [if_neg c4] at h
    refine a_ict i_Mo_symbol_7 (Int32.not_lt.mp c4) ?_
    refine a_iconst i_Mo_symbol_80 ?_
    exact am_ret_i ok_Mo_symbol rfl rfl (am_lf_i h)
def g_Mo_symbol (σ : am_S) : Option (Int32 × am_S) :=
  g_Mo_symbol_2 4000 (0) σ
set_option maxHeartbeats 4000000 in
theorem t_Mo_symbol_0 {σ σ' : am_S} {r : Int32} (h : g_Mo_symbol σ = some (r, σ')) : am_A S_m M_Mo_symbol (0, [some (.ref 0), none, none, none, none], [], σ) (am_r S_m (fun q τ => q = some (.int r) ∧ τ = σ')) := by
  unfold g_Mo_symbol at h
  refine a_iconst i_Mo_symbol_0 ?_
  refine a_istore_n i_Mo_symbol_1 rfl ?_
  exact t_Mo_symbol_2 4000 h
theorem t_Mo_symbol {σ σ' : am_S} {r : Int32} (h : g_Mo_symbol σ = some (r, σ')) : am_Mt S_m M_Mo_symbol [.ref 0] σ (fun q τ => q = some (.int r) ∧ τ = σ') :=
  am_M_of ok_Mo_symbol (Nat.le_of_ble_eq_true rfl) (t_Mo_symbol_0 h)
def g_Mo_find_143 (σ : am_S) : Option (Int32 × am_S) :=
  some (σ.1.1 0 56, σ)
set_option maxHeartbeats 4000000 in
theorem t_Mo_find_143 {σ σ' : am_S} {r : Int32} (h : g_Mo_find_143 σ = some (r, σ')) : am_A S_m M_Mo_find (143, [some (.ref 0), none, none, none, none], [], σ) (am_r S_m (fun q τ => q = some (.int r) ∧ τ = σ')) := by
  unfold g_Mo_find_143 at h
  refine a_aload_n i_Mo_find_143 rfl ?_
  refine a_get (v := .int (σ.1.1 0 56)) i_Mo_find_144 rfl rfl ?_
  exact am_ret_i ok_Mo_find rfl rfl (am_lf_i h)
def g_Mo_find_102 (y0 : Int32) (σ : am_S) : Option (Int32 × am_S) :=
  if y0 = (-1) then
    g_Mo_find_143 σ
  else
    am_gd (inb 8 10) <|
    am_bd (g_Mo_peek ((σ.2.1 3 (8 : Int32).toNatClampNeg) + (24 * y0)) (4) σ) fun v18 σ18 =>
    am_bd (g_Mo_textIn (9) v18 σ18) fun v19 σ19 =>
    g_Mo_find_143 (am_fi (am_fi σ19 0 57 v19) 0 56 1)
set_option maxHeartbeats 4000000 in
theorem t_Mo_find_102 {y0 : Int32} {σ σ' : am_S} {r : Int32} (h : g_Mo_find_102 y0 σ = some (r, σ')) : am_A S_m M_Mo_find (102, [some (.ref 0), none, none, none, none], [.int y0], σ) (am_r S_m (fun q τ => q = some (.int r) ∧ τ = σ')) := by
  unfold g_Mo_find_102 at h
  refine a_istore i_Mo_find_102 rfl ?_
  refine a_iload i_Mo_find_104 rfl ?_
  refine a_iconst i_Mo_find_106 ?_
  by_cases c4 : y0 = (-1)
  · rw [if_pos c4] at h
    refine a_ict i_Mo_find_107 c4 ?_
    exact am_wk (t_Mo_find_143 h) ⟨Or.inr rfl, Or.inl rfl, Or.inl rfl, Or.inl rfl, Or.inl rfl, trivial⟩
  · rw [if_neg c4] at h
    refine a_icf i_Mo_find_107 c4 ?_
    refine a_aload_n i_Mo_find_110 rfl ?_
    refine a_aload_n i_Mo_find_111 rfl ?_
    refine a_bipush i_Mo_find_112 ?_
    refine a_aload_n i_Mo_find_114 rfl ?_
    refine a_aload_n i_Mo_find_115 rfl ?_
    refine a_get (v := .ref 3) i_Mo_find_116 rfl rfl ?_
    refine a_bipush i_Mo_find_119 ?_
    obtain ⟨c12, h⟩ := gd_some h
    refine a_ial (n := 10) i_Mo_find_121 (by decide) rfl rfl (inb_in c12) ?_
    refine a_bipush i_Mo_find_122 ?_
    refine a_iload i_Mo_find_124 rfl ?_
    refine a_imul i_Mo_find_126 ?_
    refine a_iadd i_Mo_find_127 ?_
    refine a_iconst i_Mo_find_128 ?_
    obtain ⟨v18, σ18, e18, h⟩ := am_bd_some h
    refine am_cvd (rest := [.int 9, .ref 0, .ref 0]) [.int ((σ.2.1 3 (8 : Int32).toNatClampNeg) + (24 * y0)), .int 4] c_Mo_find_129 ⟨by decide, _, rfl⟩ rfl (Nat.le_of_ble_eq_true rfl) (t_Mo_peek e18) ?_
    obtain ⟨v19, σ19, e19, h⟩ := am_bd_some h
    refine am_cvd (rest := [.ref 0]) [.int 9, .long v18] c_Mo_find_132 ⟨by decide, _, rfl⟩ rfl (Nat.le_of_ble_eq_true rfl) (t_Mo_textIn e19) ?_
    refine a_puti i_Mo_find_135 rfl trivial ?_
    refine a_aload_n i_Mo_find_138 rfl ?_
    refine a_iconst i_Mo_find_139 ?_
    refine a_puti i_Mo_find_140 rfl trivial ?_
    exact am_wk (t_Mo_find_143 h) ⟨Or.inr rfl, Or.inl rfl, Or.inl rfl, Or.inl rfl, Or.inl rfl, trivial⟩
def g_Mo_find_43 : Nat → Int32 → am_S → Option (Int32 × am_S)
  | 0, _, _ => none
  | n + 1, x3, σ =>
  if x3 = (-1) then
    if (σ.1.1 0 55) = 0 then
      am_bd (g_Mo_symbol (am_fi σ 0 56 (σ.1.1 0 55))) fun v12 σ12 =>
      g_Mo_find_102 v12 σ12
    else
      g_Mo_find_102 (-1) (am_fi σ 0 56 (σ.1.1 0 55))
  else
    am_gd (inb (σ.1.1 0 55) 200) <|
    am_bd (g_Mo_first (29) x3 (am_fi (am_ai σ 33 (σ.1.1 0 55).toNatClampNeg x3) 0 55 ((σ.1.1 0 55) + 1))) fun v19 σ19 =>
    g_Mo_find_43 n v19 σ19
set_option maxHeartbeats 4000000 in
theorem t_Mo_find_43 : ∀ (n : Nat) {x3 : Int32} {σ σ' : am_S} {r : Int32} (h : g_Mo_find_43 n x3 σ = some (r, σ')), am_A S_m M_Mo_find (43, [some (.ref 0), none, none, some (.int x3), none], [], σ) (am_r S_m (fun q τ => q = some (.int r) ∧ τ = σ')) := by
  intro n
  induction n with
  | zero =>
    intro x3 σ σ' r h
    cases h
  | succ n ih =>
  intro x3 σ σ' r h
  unfold g_Mo_find_43 at h
  refine a_iload_n i_Mo_find_43 rfl ?_
  refine a_iconst i_Mo_find_44 ?_
  by_cases c3 : x3 = (-1)
  · rw [if_pos c3] at h
    refine a_ict i_Mo_find_45 c3 ?_
    refine a_aload_n i_Mo_find_79 rfl ?_
    refine a_aload_n i_Mo_find_80 rfl ?_
    refine a_get (v := .int (σ.1.1 0 55)) i_Mo_find_81 rfl rfl ?_
    refine a_puti i_Mo_find_84 rfl trivial ?_
    refine a_aload_n i_Mo_find_87 rfl ?_
    refine a_get (v := .int (σ.1.1 0 55)) i_Mo_find_88 rfl rfl ?_
    by_cases c10 : (σ.1.1 0 55) = 0
    · rw [if_pos c10] at h
      refine a_iff i_Mo_find_91 c10 ?_
      refine a_aload_n i_Mo_find_94 rfl ?_
      obtain ⟨v12, σ12, e12, h⟩ := am_bd_some h
      refine am_cvd (rest := []) [] c_Mo_find_95 ⟨by decide, _, rfl⟩ rfl (Nat.le_of_ble_eq_true rfl) (t_Mo_symbol e12) ?_
      refine a_goto i_Mo_find_98 ?_
      exact am_wk (t_Mo_find_102 h) ⟨Or.inr rfl, Or.inl rfl, Or.inl rfl, Or.inl rfl, Or.inl rfl, trivial⟩
    · rw [if_neg c10] at h
      refine a_ift i_Mo_find_91 c10 ?_
      refine a_iconst i_Mo_find_101 ?_
      exact am_wk (t_Mo_find_102 h) ⟨Or.inr rfl, Or.inl rfl, Or.inl rfl, Or.inl rfl, Or.inl rfl, trivial⟩
  · rw [if_neg c3] at h
    refine a_icf i_Mo_find_45 c3 ?_
    refine a_aload_n i_Mo_find_48 rfl ?_
    refine a_get (v := .ref 33) i_Mo_find_49 rfl rfl ?_
    refine a_aload_n i_Mo_find_52 rfl ?_
    refine a_get (v := .int (σ.1.1 0 55)) i_Mo_find_53 rfl rfl ?_
    refine a_iload_n i_Mo_find_56 rfl ?_
    obtain ⟨c9, h⟩ := gd_some h
    refine a_ias (n := 200) i_Mo_find_57 rfl rfl (inb_in c9) ?_
    refine a_aload_n i_Mo_find_58 rfl ?_
    refine a_dup_a i_Mo_find_59 ?_
    refine a_get (v := .int (σ.1.1 0 55)) i_Mo_find_60 rfl rfl ?_
    refine a_iconst i_Mo_find_63 ?_
    refine a_iadd i_Mo_find_64 ?_
    refine a_puti i_Mo_find_65 rfl trivial ?_
    refine a_aload_n i_Mo_find_68 rfl ?_
    refine a_bipush i_Mo_find_69 ?_
    refine a_iload_n i_Mo_find_71 rfl ?_
    obtain ⟨v19, σ19, e19, h⟩ := am_bd_some h
    refine am_cvd (rest := []) [.int 29, .int x3] c_Mo_find_72 ⟨by decide, _, rfl⟩ rfl (Nat.le_of_ble_eq_true rfl) (t_Mo_first e19) ?_
    refine a_istore_n i_Mo_find_75 rfl ?_
    refine a_goto i_Mo_find_76 ?_
    exact ih h
def g_Mo_find_13 (x1 : Int64) (y0 : Int32) (σ : am_S) : Option (Int32 × am_S) :=
  if (σ.1.1 0 5) = 0 then
    some (0, am_fi σ 0 1 y0)
  else
    am_bd (g_Mo_first (46) (-1) (am_fi (am_fl (am_fi σ 0 1 y0) 0 59 x1) 0 55 0)) fun v14 σ14 =>
    g_Mo_find_43 4000 v14 σ14
set_option maxHeartbeats 4000000 in
theorem t_Mo_find_13 {x1 : Int64} {y0 : Int32} {σ σ' : am_S} {r : Int32} (h : g_Mo_find_13 x1 y0 σ = some (r, σ')) : am_A S_m M_Mo_find (13, [some (.ref 0), some (.long x1), none, none, none], [.int y0, .ref 0], σ) (am_r S_m (fun q τ => q = some (.int r) ∧ τ = σ')) := by
  unfold g_Mo_find_13 at h
  refine a_puti i_Mo_find_13 rfl trivial ?_
  refine a_aload_n i_Mo_find_16 rfl ?_
  refine a_get (v := .int (σ.1.1 0 5)) i_Mo_find_17 rfl rfl ?_
  by_cases c4 : (σ.1.1 0 5) = 0
  · rw [if_pos c4] at h
    refine a_iff i_Mo_find_20 c4 ?_
    refine a_iconst i_Mo_find_23 ?_
    exact am_ret_i ok_Mo_find rfl rfl (am_lf_i h)
  · rw [if_neg c4] at h
    refine a_ift i_Mo_find_20 c4 ?_
    refine a_aload_n i_Mo_find_25 rfl ?_
    refine a_lload_n i_Mo_find_26 rfl ?_
    refine a_putl i_Mo_find_27 rfl ?_
    refine a_aload_n i_Mo_find_30 rfl ?_
    refine a_iconst i_Mo_find_31 ?_
    refine a_puti i_Mo_find_32 rfl trivial ?_
    refine a_aload_n i_Mo_find_35 rfl ?_
    refine a_bipush i_Mo_find_36 ?_
    refine a_iconst i_Mo_find_38 ?_
    obtain ⟨v14, σ14, e14, h⟩ := am_bd_some h
    refine am_cvd (rest := []) [.int 46, .int (-1)] c_Mo_find_39 ⟨by decide, _, rfl⟩ rfl (Nat.le_of_ble_eq_true rfl) (t_Mo_first e14) ?_
    refine a_istore_n i_Mo_find_42 rfl ?_
    exact am_wk (t_Mo_find_43 4000 h) ⟨Or.inr rfl, Or.inl rfl, Or.inl rfl, Or.inr rfl, Or.inl rfl, trivial⟩
def g_Mo_find (x1 : Int64) (σ : am_S) : Option (Int32 × am_S) :=
  if (σ.1.1 0 5) = 0 then
    g_Mo_find_13 x1 (1) σ
  else
    g_Mo_find_13 x1 (0) σ
set_option maxHeartbeats 4000000 in
theorem t_Mo_find_0 {x1 : Int64} {σ σ' : am_S} {r : Int32} (h : g_Mo_find x1 σ = some (r, σ')) : am_A S_m M_Mo_find (0, [some (.ref 0), some (.long x1), none, none, none], [], σ) (am_r S_m (fun q τ => q = some (.int r) ∧ τ = σ')) := by
  unfold g_Mo_find at h
  refine a_aload_n i_Mo_find_0 rfl ?_
  refine a_aload_n i_Mo_find_1 rfl ?_
  refine a_get (v := .int (σ.1.1 0 5)) i_Mo_find_2 rfl rfl ?_
  by_cases c4 : (σ.1.1 0 5) = 0
  · rw [if_pos c4] at h
    refine a_ift i_Mo_find_5 c4 ?_
    refine a_iconst i_Mo_find_12 ?_
    exact t_Mo_find_13 h
  · rw [if_neg c4] at h
    refine a_iff i_Mo_find_5 c4 ?_
    refine a_iconst i_Mo_find_8 ?_
    refine a_goto i_Mo_find_9 ?_
    exact t_Mo_find_13 h
theorem t_Mo_find {x1 : Int64} {σ σ' : am_S} {r : Int32} (h : g_Mo_find x1 σ = some (r, σ')) : am_Mt S_m M_Mo_find [.ref 0, .long x1] σ (fun q τ => q = some (.int r) ∧ τ = σ') :=
  am_M_of ok_Mo_find (Nat.le_of_ble_eq_true rfl) (t_Mo_find_0 h)
def g_Mo_isFrame_17 (y0 : Int32) (σ : am_S) : Option (Int32 × am_S) :=
  am_gd (z01 y0) <|
  some (y0, σ)
set_option maxHeartbeats 4000000 in
theorem t_Mo_isFrame_17 {y0 : Int32} {σ σ' : am_S} {r : Int32} (h : g_Mo_isFrame_17 y0 σ = some (r, σ')) : am_A S_m M_Mo_isFrame (17, [none, none], [.int y0], σ) (am_r S_m (fun q τ => q = some (.int r) ∧ τ = σ')) := by
  unfold g_Mo_isFrame_17 at h
  obtain ⟨c1, h⟩ := gd_some h
  exact am_ret_z ok_Mo_isFrame rfl rfl (z01_or c1) (am_lf_i h)
def g_Mo_isFrame_16 (σ : am_S) : Option (Int32 × am_S) :=
  g_Mo_isFrame_17 (0) σ
set_option maxHeartbeats 4000000 in
theorem t_Mo_isFrame_16 {σ σ' : am_S} {r : Int32} (h : g_Mo_isFrame_16 σ = some (r, σ')) : am_A S_m M_Mo_isFrame (16, [none, none], [], σ) (am_r S_m (fun q τ => q = some (.int r) ∧ τ = σ')) := by
  unfold g_Mo_isFrame_16 at h
  refine a_iconst i_Mo_isFrame_16 ?_
  exact t_Mo_isFrame_17 h
def g_Mo_isFrame (x1 : Int32) (σ : am_S) : Option (Int32 × am_S) :=
  if x1 < 0 then
    g_Mo_isFrame_16 σ
  else
    if x1 < (σ.1.1 0 56) then
      g_Mo_isFrame_17 (1) σ
    else
      g_Mo_isFrame_16 σ
set_option maxHeartbeats 4000000 in
theorem t_Mo_isFrame_0 {x1 : Int32} {σ σ' : am_S} {r : Int32} (h : g_Mo_isFrame x1 σ = some (r, σ')) : am_A S_m M_Mo_isFrame (0, [some (.ref 0), some (.int x1)], [], σ) (am_r S_m (fun q τ => q = some (.int r) ∧ τ = σ')) := by
  unfold g_Mo_isFrame at h
  refine a_iload_n i_Mo_isFrame_0 rfl ?_
  by_cases c2 : x1 < 0
  · rw [if_pos c2] at h
    refine a_ift i_Mo_isFrame_1 c2 ?_
    exact am_wk (t_Mo_isFrame_16 h) ⟨Or.inl rfl, Or.inl rfl, trivial⟩
  · rw [if_neg c2] at h
    refine a_iff i_Mo_isFrame_1 c2 ?_
    refine a_iload_n i_Mo_isFrame_4 rfl ?_
    refine a_aload_n i_Mo_isFrame_5 rfl ?_
    refine a_get (v := .int (σ.1.1 0 56)) i_Mo_isFrame_6 rfl rfl ?_
    by_cases c6 : x1 < (σ.1.1 0 56)
    · rw [if_pos c6] at h
      refine a_icf i_Mo_isFrame_9 (Int32.not_le.mpr c6) ?_
      refine a_iconst i_Mo_isFrame_12 ?_
      refine a_goto i_Mo_isFrame_13 ?_
      exact am_wk (t_Mo_isFrame_17 h) ⟨Or.inl rfl, Or.inl rfl, trivial⟩
    · rw [if_neg c6] at h
      refine a_ict i_Mo_isFrame_9 (Int32.not_lt.mp c6) ?_
      exact am_wk (t_Mo_isFrame_16 h) ⟨Or.inl rfl, Or.inl rfl, trivial⟩
theorem t_Mo_isFrame {x1 : Int32} {σ σ' : am_S} {r : Int32} (h : g_Mo_isFrame x1 σ = some (r, σ')) : am_Mt S_m M_Mo_isFrame [.ref 0, .int x1] σ (fun q τ => q = some (.int r) ∧ τ = σ') :=
  am_M_of ok_Mo_isFrame (Nat.le_of_ble_eq_true rfl) (t_Mo_isFrame_0 h)
def g_Mo_nameOf_83 (y0 : Int32) (σ : am_S) : Option (Int32 × am_S) :=
  some (y0, σ)
set_option maxHeartbeats 4000000 in
theorem t_Mo_nameOf_83 {y0 : Int32} {σ σ' : am_S} {r : Int32} (h : g_Mo_nameOf_83 y0 σ = some (r, σ')) : am_A S_m M_Mo_nameOf (83, [none, none, none, none], [.int y0], σ) (am_r S_m (fun q τ => q = some (.int r) ∧ τ = σ')) := by
  unfold g_Mo_nameOf_83 at h
  exact am_ret_i ok_Mo_nameOf rfl rfl (am_lf_i h)
def g_Mo_nameOf_82 (σ : am_S) : Option (Int32 × am_S) :=
  g_Mo_nameOf_83 (-1) σ
set_option maxHeartbeats 4000000 in
theorem t_Mo_nameOf_82 {σ σ' : am_S} {r : Int32} (h : g_Mo_nameOf_82 σ = some (r, σ')) : am_A S_m M_Mo_nameOf (82, [none, none, none, none], [], σ) (am_r S_m (fun q τ => q = some (.int r) ∧ τ = σ')) := by
  unfold g_Mo_nameOf_82 at h
  refine a_iconst i_Mo_nameOf_82 ?_
  exact t_Mo_nameOf_83 h
def g_Mo_nameOf_60 (x2 : Int32) (σ : am_S) : Option (Int32 × am_S) :=
  if x2 = (-1) then
    g_Mo_nameOf_82 σ
  else
    am_bd (g_Mo_has x2 (0) σ) fun v7 σ7 =>
    if v7 = 0 then
      g_Mo_nameOf_82 σ7
    else
      am_bd (g_Mo_nameAt x2 σ7) fun v11 σ11 =>
      g_Mo_nameOf_83 v11 σ11
set_option maxHeartbeats 4000000 in
theorem t_Mo_nameOf_60 {x2 : Int32} {σ σ' : am_S} {r : Int32} (h : g_Mo_nameOf_60 x2 σ = some (r, σ')) : am_A S_m M_Mo_nameOf (60, [some (.ref 0), none, some (.int x2), none], [], σ) (am_r S_m (fun q τ => q = some (.int r) ∧ τ = σ')) := by
  unfold g_Mo_nameOf_60 at h
  refine a_iload_n i_Mo_nameOf_60 rfl ?_
  refine a_iconst i_Mo_nameOf_61 ?_
  by_cases c3 : x2 = (-1)
  · rw [if_pos c3] at h
    refine a_ict i_Mo_nameOf_62 c3 ?_
    exact am_wk (t_Mo_nameOf_82 h) ⟨Or.inl rfl, Or.inl rfl, Or.inl rfl, Or.inl rfl, trivial⟩
  · rw [if_neg c3] at h
    refine a_icf i_Mo_nameOf_62 c3 ?_
    refine a_aload_n i_Mo_nameOf_65 rfl ?_
    refine a_iload_n i_Mo_nameOf_66 rfl ?_
    refine a_iconst i_Mo_nameOf_67 ?_
    obtain ⟨v7, σ7, e7, h⟩ := am_bd_some h
    refine am_cvd (rest := []) [.int x2, .int 0] c_Mo_nameOf_68 ⟨by decide, _, rfl⟩ rfl (Nat.le_of_ble_eq_true rfl) (t_Mo_has e7) ?_
    by_cases c8 : v7 = 0
    · rw [if_pos c8] at h
      refine a_ift i_Mo_nameOf_71 c8 ?_
      exact am_wk (t_Mo_nameOf_82 h) ⟨Or.inl rfl, Or.inl rfl, Or.inl rfl, Or.inl rfl, trivial⟩
    · rw [if_neg c8] at h
      refine a_iff i_Mo_nameOf_71 c8 ?_
      refine a_aload_n i_Mo_nameOf_74 rfl ?_
      refine a_iload_n i_Mo_nameOf_75 rfl ?_
      obtain ⟨v11, σ11, e11, h⟩ := am_bd_some h
      refine am_cvd (rest := []) [.int x2] c_Mo_nameOf_76 ⟨by decide, _, rfl⟩ rfl (Nat.le_of_ble_eq_true rfl) (t_Mo_nameAt e11) ?_
      refine a_goto i_Mo_nameOf_79 ?_
      exact am_wk (t_Mo_nameOf_83 h) ⟨Or.inl rfl, Or.inl rfl, Or.inl rfl, Or.inl rfl, trivial⟩
def g_Mo_nameOf_28 : Nat → Int32 → Int32 → am_S → Option (Int32 × am_S)
  | 0, _, _, _ => none
  | n + 1, x2, x3, σ =>
  if x3 < 8 then
    if x2 = (-1) then
      g_Mo_nameOf_60 x2 σ
    else
      am_bd (g_Mo_has x2 (0) σ) fun v10 σ10 =>
      if v10 = 0 then
        am_bd (g_Mo_origin x2 σ10) fun v14 σ14 =>
        g_Mo_nameOf_28 n v14 (x3 + 1) σ14
      else
        g_Mo_nameOf_60 x2 σ10
  else
    g_Mo_nameOf_60 x2 σ
set_option maxHeartbeats 4000000 in
theorem t_Mo_nameOf_28 : ∀ (n : Nat) {x2 : Int32} {x3 : Int32} {σ σ' : am_S} {r : Int32} (h : g_Mo_nameOf_28 n x2 x3 σ = some (r, σ')), am_A S_m M_Mo_nameOf (28, [some (.ref 0), none, some (.int x2), some (.int x3)], [], σ) (am_r S_m (fun q τ => q = some (.int r) ∧ τ = σ')) := by
  intro n
  induction n with
  | zero =>
    intro x2 x3 σ σ' r h
    cases h
  | succ n ih =>
  intro x2 x3 σ σ' r h
  unfold g_Mo_nameOf_28 at h
  refine a_iload_n i_Mo_nameOf_28 rfl ?_
  refine a_bipush i_Mo_nameOf_29 ?_
  by_cases c3 : x3 < 8
  · rw [if_pos c3] at h
    refine a_icf i_Mo_nameOf_31 (Int32.not_le.mpr c3) ?_
    refine a_iload_n i_Mo_nameOf_34 rfl ?_
    refine a_iconst i_Mo_nameOf_35 ?_
    by_cases c6 : x2 = (-1)
    · rw [if_pos c6] at h
      refine a_ict i_Mo_nameOf_36 c6 ?_
      exact am_wk (t_Mo_nameOf_60 h) ⟨Or.inr rfl, Or.inl rfl, Or.inr rfl, Or.inl rfl, trivial⟩
    · rw [if_neg c6] at h
      refine a_icf i_Mo_nameOf_36 c6 ?_
      refine a_aload_n i_Mo_nameOf_39 rfl ?_
      refine a_iload_n i_Mo_nameOf_40 rfl ?_
      refine a_iconst i_Mo_nameOf_41 ?_
      obtain ⟨v10, σ10, e10, h⟩ := am_bd_some h
      refine am_cvd (rest := []) [.int x2, .int 0] c_Mo_nameOf_42 ⟨by decide, _, rfl⟩ rfl (Nat.le_of_ble_eq_true rfl) (t_Mo_has e10) ?_
      by_cases c11 : v10 = 0
      · rw [if_pos c11] at h
        refine a_iff i_Mo_nameOf_45 c11 ?_
        refine a_aload_n i_Mo_nameOf_48 rfl ?_
        refine a_iload_n i_Mo_nameOf_49 rfl ?_
        obtain ⟨v14, σ14, e14, h⟩ := am_bd_some h
        refine am_cvd (rest := []) [.int x2] c_Mo_nameOf_50 ⟨by decide, _, rfl⟩ rfl (Nat.le_of_ble_eq_true rfl) (t_Mo_origin e14) ?_
        refine a_istore_n i_Mo_nameOf_53 rfl ?_
        refine a_iinc i_Mo_nameOf_54 rfl rfl ?_
        refine a_goto i_Mo_nameOf_57 ?_
        exact ih h
      · rw [if_neg c11] at h
        refine a_ift i_Mo_nameOf_45 c11 ?_
        exact am_wk (t_Mo_nameOf_60 h) ⟨Or.inr rfl, Or.inl rfl, Or.inr rfl, Or.inl rfl, trivial⟩
  · rw [if_neg c3] at h
    refine a_ict i_Mo_nameOf_31 (Int32.not_lt.mp c3) ?_
    exact am_wk (t_Mo_nameOf_60 h) ⟨Or.inr rfl, Or.inl rfl, Or.inr rfl, Or.inl rfl, trivial⟩
def g_Mo_nameOf (x1 : Int32) (σ : am_S) : Option (Int32 × am_S) :=
  if (σ.1.1 0 55) = 0 then
    some (σ.1.1 0 57, σ)
  else
    am_gd (inb (((σ.1.1 0 55) - 1) - x1) 200) <|
    g_Mo_nameOf_28 4000 (σ.2.1 33 (((σ.1.1 0 55) - 1) - x1).toNatClampNeg) (0) σ
set_option maxHeartbeats 4000000 in
theorem t_Mo_nameOf_0 {x1 : Int32} {σ σ' : am_S} {r : Int32} (h : g_Mo_nameOf x1 σ = some (r, σ')) : am_A S_m M_Mo_nameOf (0, [some (.ref 0), some (.int x1), none, none], [], σ) (am_r S_m (fun q τ => q = some (.int r) ∧ τ = σ')) := by
  unfold g_Mo_nameOf at h
  refine a_aload_n i_Mo_nameOf_0 rfl ?_
  refine a_get (v := .int (σ.1.1 0 55)) i_Mo_nameOf_1 rfl rfl ?_
  by_cases c3 : (σ.1.1 0 55) = 0
  · rw [if_pos c3] at h
    refine a_iff i_Mo_nameOf_4 c3 ?_
    refine a_aload_n i_Mo_nameOf_7 rfl ?_
    refine a_get (v := .int (σ.1.1 0 57)) i_Mo_nameOf_8 rfl rfl ?_
    exact am_ret_i ok_Mo_nameOf rfl rfl (am_lf_i h)
  · rw [if_neg c3] at h
    refine a_ift i_Mo_nameOf_4 c3 ?_
    refine a_aload_n i_Mo_nameOf_12 rfl ?_
    refine a_get (v := .ref 33) i_Mo_nameOf_13 rfl rfl ?_
    refine a_aload_n i_Mo_nameOf_16 rfl ?_
    refine a_get (v := .int (σ.1.1 0 55)) i_Mo_nameOf_17 rfl rfl ?_
    refine a_iconst i_Mo_nameOf_20 ?_
    refine a_isub i_Mo_nameOf_21 ?_
    refine a_iload_n i_Mo_nameOf_22 rfl ?_
    refine a_isub i_Mo_nameOf_23 ?_
    obtain ⟨c12, h⟩ := gd_some h
    refine a_ial (n := 200) i_Mo_nameOf_24 (by decide) rfl rfl (inb_in c12) ?_
    refine a_istore_n i_Mo_nameOf_25 rfl ?_
    refine a_iconst i_Mo_nameOf_26 ?_
    refine a_istore_n i_Mo_nameOf_27 rfl ?_
    exact am_wk (t_Mo_nameOf_28 4000 h) ⟨Or.inr rfl, Or.inl rfl, Or.inr rfl, Or.inr rfl, trivial⟩
theorem t_Mo_nameOf {x1 : Int32} {σ σ' : am_S} {r : Int32} (h : g_Mo_nameOf x1 σ = some (r, σ')) : am_Mt S_m M_Mo_nameOf [.ref 0, .int x1] σ (fun q τ => q = some (.int r) ∧ τ = σ') :=
  am_M_of ok_Mo_nameOf (Nat.le_of_ble_eq_true rfl) (t_Mo_nameOf_0 h)
def g_Mo_character_9 (σ : am_S) : Option (Int32 × am_S) :=
  some ((-1), σ)
set_option maxHeartbeats 4000000 in
theorem t_Mo_character_9 {σ σ' : am_S} {r : Int32} (h : g_Mo_character_9 σ = some (r, σ')) : am_A S_m M_Mo_character (9, [none, none, none, none], [], σ) (am_r S_m (fun q τ => q = some (.int r) ∧ τ = σ')) := by
  unfold g_Mo_character_9 at h
  refine a_iconst i_Mo_character_9 ?_
  exact am_ret_i ok_Mo_character rfl rfl (am_lf_i h)
def g_Mo_character_13 : Nat → Int32 → Int32 → Int32 → am_S → Option (Int32 × am_S)
  | 0, _, _, _, _ => none
  | n + 1, x1, x2, x3, σ =>
  if x2 < x3 then
    am_gd (inb (x1 + x2) 3000) <|
    some ((σ.2.1 2 (x1 + x2).toNatClampNeg) &&& 255, σ)
  else
    am_gd (inb (x1 + x3) 3000) <|
    if (σ.2.1 2 (x1 + x3).toNatClampNeg) = 0 then
      some ((-1), σ)
    else
      g_Mo_character_13 n x1 x2 (x3 + 1) σ
set_option maxHeartbeats 4000000 in
theorem t_Mo_character_13 : ∀ (n : Nat) {x1 : Int32} {x2 : Int32} {x3 : Int32} {σ σ' : am_S} {r : Int32} (h : g_Mo_character_13 n x1 x2 x3 σ = some (r, σ')), am_A S_m M_Mo_character (13, [some (.ref 0), some (.int x1), some (.int x2), some (.int x3)], [], σ) (am_r S_m (fun q τ => q = some (.int r) ∧ τ = σ')) := by
  intro n
  induction n with
  | zero =>
    intro x1 x2 x3 σ σ' r h
    cases h
  | succ n ih =>
  intro x1 x2 x3 σ σ' r h
  unfold g_Mo_character_13 at h
  refine a_iload_n i_Mo_character_13 rfl ?_
  refine a_iload_n i_Mo_character_14 rfl ?_
  by_cases c3 : x2 < x3
  · rw [if_pos c3] at h
    refine a_ict i_Mo_character_15 c3 ?_
    refine a_aload_n i_Mo_character_37 rfl ?_
    refine a_get (v := .ref 2) i_Mo_character_38 rfl rfl ?_
    refine a_iload_n i_Mo_character_41 rfl ?_
    refine a_iload_n i_Mo_character_42 rfl ?_
    refine a_iadd i_Mo_character_43 ?_
    obtain ⟨c9, h⟩ := gd_some h
    refine a_bal (n := 3000) i_Mo_character_44 rfl rfl (inb_in c9) ?_
    refine a_sipush i_Mo_character_45 ?_
    refine a_iand i_Mo_character_48 ?_
    exact am_ret_i ok_Mo_character rfl rfl (am_lf_i h)
  · rw [if_neg c3] at h
    refine a_icf i_Mo_character_15 c3 ?_
    refine a_aload_n i_Mo_character_18 rfl ?_
    refine a_get (v := .ref 2) i_Mo_character_19 rfl rfl ?_
    refine a_iload_n i_Mo_character_22 rfl ?_
    refine a_iload_n i_Mo_character_23 rfl ?_
    refine a_iadd i_Mo_character_24 ?_
    obtain ⟨c9, h⟩ := gd_some h
    refine a_bal (n := 3000) i_Mo_character_25 rfl rfl (inb_in c9) ?_
    by_cases c10 : (σ.2.1 2 (x1 + x3).toNatClampNeg) = 0
    · rw [if_pos c10] at h
      refine a_iff i_Mo_character_26 c10 ?_
      refine a_iconst i_Mo_character_29 ?_
      exact am_ret_i ok_Mo_character rfl rfl (am_lf_i h)
    · rw [if_neg c10] at h
      refine a_ift i_Mo_character_26 c10 ?_
      refine a_iinc i_Mo_character_31 rfl rfl ?_
      refine a_goto i_Mo_character_34 ?_
      exact ih h
def g_Mo_character (x1 : Int32) (x2 : Int32) (σ : am_S) : Option (Int32 × am_S) :=
  if x1 = (-1) then
    g_Mo_character_9 σ
  else
    if x2 < 0 then
      g_Mo_character_9 σ
    else
      g_Mo_character_13 4000 x1 x2 (0) σ
set_option maxHeartbeats 4000000 in
theorem t_Mo_character_0 {x1 : Int32} {x2 : Int32} {σ σ' : am_S} {r : Int32} (h : g_Mo_character x1 x2 σ = some (r, σ')) : am_A S_m M_Mo_character (0, [some (.ref 0), some (.int x1), some (.int x2), none], [], σ) (am_r S_m (fun q τ => q = some (.int r) ∧ τ = σ')) := by
  unfold g_Mo_character at h
  refine a_iload_n i_Mo_character_0 rfl ?_
  refine a_iconst i_Mo_character_1 ?_
  by_cases c3 : x1 = (-1)
  · rw [if_pos c3] at h
    refine a_ict i_Mo_character_2 c3 ?_
    exact am_wk (t_Mo_character_9 h) ⟨Or.inl rfl, Or.inl rfl, Or.inl rfl, Or.inl rfl, trivial⟩
  · rw [if_neg c3] at h
    refine a_icf i_Mo_character_2 c3 ?_
    refine a_iload_n i_Mo_character_5 rfl ?_
    by_cases c5 : x2 < 0
    · rw [if_pos c5] at h
      refine a_iff i_Mo_character_6 (Int32.not_le.mpr c5) ?_
      exact am_wk (t_Mo_character_9 h) ⟨Or.inl rfl, Or.inl rfl, Or.inl rfl, Or.inl rfl, trivial⟩
    · rw [if_neg c5] at h
      refine a_ift i_Mo_character_6 (Int32.not_lt.mp c5) ?_
      refine a_iconst i_Mo_character_11 ?_
      refine a_istore_n i_Mo_character_12 rfl ?_
      exact t_Mo_character_13 4000 h
theorem t_Mo_character {x1 : Int32} {x2 : Int32} {σ σ' : am_S} {r : Int32} (h : g_Mo_character x1 x2 σ = some (r, σ')) : am_Mt S_m M_Mo_character [.ref 0, .int x1, .int x2] σ (fun q τ => q = some (.int r) ∧ τ = σ') :=
  am_M_of ok_Mo_character (Nat.le_of_ble_eq_true rfl) (t_Mo_character_0 h)
def g_Mo_name_27 (y0 : Int32) (σ : am_S) : Option (Int32 × am_S) :=
  some (y0, σ)
set_option maxHeartbeats 4000000 in
theorem t_Mo_name_27 {y0 : Int32} {σ σ' : am_S} {r : Int32} (h : g_Mo_name_27 y0 σ = some (r, σ')) : am_A S_m M_Mo_name (27, [none, none, none], [.int y0], σ) (am_r S_m (fun q τ => q = some (.int r) ∧ τ = σ')) := by
  unfold g_Mo_name_27 at h
  exact am_ret_i ok_Mo_name rfl rfl (am_lf_i h)
def g_Mo_name (x1 : Int32) (x2 : Int32) (σ : am_S) : Option (Int32 × am_S) :=
  am_bd (g_Mo_isFrame x1 (am_fi σ 0 1 0)) fun v6 σ6 =>
  if v6 = 0 then
    g_Mo_name_27 (-1) σ6
  else
    am_bd (g_Mo_nameOf x1 σ6) fun v11 σ11 =>
    am_bd (g_Mo_character v11 x2 σ11) fun v13 σ13 =>
    g_Mo_name_27 v13 σ13
set_option maxHeartbeats 4000000 in
theorem t_Mo_name_0 {x1 : Int32} {x2 : Int32} {σ σ' : am_S} {r : Int32} (h : g_Mo_name x1 x2 σ = some (r, σ')) : am_A S_m M_Mo_name (0, [some (.ref 0), some (.int x1), some (.int x2)], [], σ) (am_r S_m (fun q τ => q = some (.int r) ∧ τ = σ')) := by
  unfold g_Mo_name at h
  refine a_aload_n i_Mo_name_0 rfl ?_
  refine a_iconst i_Mo_name_1 ?_
  refine a_puti i_Mo_name_2 rfl trivial ?_
  refine a_aload_n i_Mo_name_5 rfl ?_
  refine a_iload_n i_Mo_name_6 rfl ?_
  obtain ⟨v6, σ6, e6, h⟩ := am_bd_some h
  refine am_cvd (rest := []) [.int x1] c_Mo_name_7 ⟨by decide, _, rfl⟩ rfl (Nat.le_of_ble_eq_true rfl) (t_Mo_isFrame e6) ?_
  by_cases c7 : v6 = 0
  · rw [if_pos c7] at h
    refine a_ift i_Mo_name_10 c7 ?_
    refine a_iconst i_Mo_name_26 ?_
    exact am_wk (t_Mo_name_27 h) ⟨Or.inl rfl, Or.inl rfl, Or.inl rfl, trivial⟩
  · rw [if_neg c7] at h
    refine a_iff i_Mo_name_10 c7 ?_
    refine a_aload_n i_Mo_name_13 rfl ?_
    refine a_aload_n i_Mo_name_14 rfl ?_
    refine a_iload_n i_Mo_name_15 rfl ?_
    obtain ⟨v11, σ11, e11, h⟩ := am_bd_some h
    refine am_cvd (rest := [.ref 0]) [.int x1] c_Mo_name_16 ⟨by decide, _, rfl⟩ rfl (Nat.le_of_ble_eq_true rfl) (t_Mo_nameOf e11) ?_
    refine a_iload_n i_Mo_name_19 rfl ?_
    obtain ⟨v13, σ13, e13, h⟩ := am_bd_some h
    refine am_cvd (rest := []) [.int v11, .int x2] c_Mo_name_20 ⟨by decide, _, rfl⟩ rfl (Nat.le_of_ble_eq_true rfl) (t_Mo_character e13) ?_
    refine a_goto i_Mo_name_23 ?_
    exact am_wk (t_Mo_name_27 h) ⟨Or.inl rfl, Or.inl rfl, Or.inl rfl, trivial⟩
theorem t_Mo_name {x1 : Int32} {x2 : Int32} {σ σ' : am_S} {r : Int32} (h : g_Mo_name x1 x2 σ = some (r, σ')) : am_Mt S_m M_Mo_name [.ref 0, .int x1, .int x2] σ (fun q τ => q = some (.int r) ∧ τ = σ') :=
  am_M_of ok_Mo_name (Nat.le_of_ble_eq_true rfl) (t_Mo_name_0 h)
def g_Mo_rowOf_88 (go : Int32 → Int32 → Int32 → am_S → Option (Int32 × am_S)) (x3 : Int32) (x5 : Int32) (y0 : Int32) (σ : am_S) : Option (Int32 × am_S) :=
  go x3 y0 (x5 + 1) σ
set_option maxHeartbeats 4000000 in
theorem t_Mo_rowOf_88 {x3 : Int32} {x5 : Int32} {y0 : Int32} {σ σ' : am_S} {r : Int32} {go : Int32 → Int32 → Int32 → am_S → Option (Int32 × am_S)} (hgo : ∀ {x3 : Int32} {x4 : Int32} {x5 : Int32} {σ σ' : am_S} {r : Int32}, go x3 x4 x5 σ = some (r, σ') → am_A S_m M_Mo_rowOf (58, [some (.ref 0), none, none, some (.int x3), some (.int x4), some (.int x5)], [], σ) (am_r S_m (fun q τ => q = some (.int r) ∧ τ = σ'))) (h : g_Mo_rowOf_88 go x3 x5 y0 σ = some (r, σ')) : am_A S_m M_Mo_rowOf (88, [some (.ref 0), none, none, some (.int x3), none, some (.int x5)], [.int y0], σ) (am_r S_m (fun q τ => q = some (.int r) ∧ τ = σ')) := by
  unfold g_Mo_rowOf_88 at h
  refine a_istore i_Mo_rowOf_88 rfl ?_
  refine a_iinc i_Mo_rowOf_90 rfl rfl ?_
  refine a_goto i_Mo_rowOf_93 ?_
  exact hgo h
def g_Mo_rowOf_58 : Nat → Int32 → Int32 → Int32 → am_S → Option (Int32 × am_S)
  | 0, _, _, _, _ => none
  | n + 1, x3, x4, x5, σ =>
  if x5 < x3 then
    am_gd (inb x5 400) <|
    am_bd (g_Mo_isLess (σ.1.2 0 59) (σ.2.2 30 x5.toNatClampNeg) σ) fun v10 σ10 =>
    if v10 = 0 then
      g_Mo_rowOf_88 (g_Mo_rowOf_58 n) x3 x5 x5 σ10
    else
      g_Mo_rowOf_88 (g_Mo_rowOf_58 n) x3 x5 x4 σ10
  else
    some (x4, σ)
set_option maxHeartbeats 4000000 in
theorem t_Mo_rowOf_58 : ∀ (n : Nat) {x3 : Int32} {x4 : Int32} {x5 : Int32} {σ σ' : am_S} {r : Int32} (h : g_Mo_rowOf_58 n x3 x4 x5 σ = some (r, σ')), am_A S_m M_Mo_rowOf (58, [some (.ref 0), none, none, some (.int x3), some (.int x4), some (.int x5)], [], σ) (am_r S_m (fun q τ => q = some (.int r) ∧ τ = σ')) := by
  intro n
  induction n with
  | zero =>
    intro x3 x4 x5 σ σ' r h
    cases h
  | succ n ih =>
  intro x3 x4 x5 σ σ' r h
  unfold g_Mo_rowOf_58 at h
  refine a_iload i_Mo_rowOf_58 rfl ?_
  refine a_iload_n i_Mo_rowOf_60 rfl ?_
  by_cases c3 : x5 < x3
  · rw [if_pos c3] at h
    refine a_icf i_Mo_rowOf_61 (Int32.not_le.mpr c3) ?_
    refine a_aload_n i_Mo_rowOf_64 rfl ?_
    refine a_get (v := .long (σ.1.2 0 59)) i_Mo_rowOf_65 rfl rfl ?_
    refine a_aload_n i_Mo_rowOf_68 rfl ?_
    refine a_get (v := .ref 30) i_Mo_rowOf_69 rfl rfl ?_
    refine a_iload i_Mo_rowOf_72 rfl ?_
    obtain ⟨c9, h⟩ := gd_some h
    refine a_lal (n := 400) i_Mo_rowOf_74 rfl rfl (inb_in c9) ?_
    obtain ⟨v10, σ10, e10, h⟩ := am_bd_some h
    refine am_csd (rest := []) [.long (σ.1.2 0 59), .long (σ.2.2 30 x5.toNatClampNeg)] c_Mo_rowOf_75 rfl (Nat.le_of_ble_eq_true rfl) (t_Mo_isLess e10) ?_
    by_cases c11 : v10 = 0
    · rw [if_pos c11] at h
      refine a_ift i_Mo_rowOf_78 c11 ?_
      refine a_iload i_Mo_rowOf_86 rfl ?_
      exact am_wk (t_Mo_rowOf_88 (fun h => ih h) h) ⟨Or.inr rfl, Or.inl rfl, Or.inl rfl, Or.inr rfl, Or.inl rfl, Or.inr rfl, trivial⟩
    · rw [if_neg c11] at h
      refine a_iff i_Mo_rowOf_78 c11 ?_
      refine a_iload i_Mo_rowOf_81 rfl ?_
      refine a_goto i_Mo_rowOf_83 ?_
      exact am_wk (t_Mo_rowOf_88 (fun h => ih h) h) ⟨Or.inr rfl, Or.inl rfl, Or.inl rfl, Or.inr rfl, Or.inl rfl, Or.inr rfl, trivial⟩
  · rw [if_neg c3] at h
    refine a_ict i_Mo_rowOf_61 (Int32.not_lt.mp c3) ?_
    refine a_iload i_Mo_rowOf_96 rfl ?_
    exact am_ret_i ok_Mo_rowOf rfl rfl (am_lf_i h)
def g_Mo_rowOf_115 (go : Int32 → Int32 → Int32 → am_S → Option (Int32 × am_S)) (x1 : Int32) (x3 : Int32) (y0 : Int32) (σ : am_S) : Option (Int32 × am_S) :=
  go x1 y0 (x3 + 1) σ
set_option maxHeartbeats 4000000 in
theorem t_Mo_rowOf_115 {x1 : Int32} {x3 : Int32} {y0 : Int32} {σ σ' : am_S} {r : Int32} {go : Int32 → Int32 → Int32 → am_S → Option (Int32 × am_S)} (hgo : ∀ {x1 : Int32} {x2 : Int32} {x3 : Int32} {σ σ' : am_S} {r : Int32}, go x1 x2 x3 σ = some (r, σ') → am_A S_m M_Mo_rowOf (9, [some (.ref 0), some (.int x1), some (.int x2), some (.int x3), none, none], [], σ) (am_r S_m (fun q τ => q = some (.int r) ∧ τ = σ'))) (h : g_Mo_rowOf_115 go x1 x3 y0 σ = some (r, σ')) : am_A S_m M_Mo_rowOf (115, [some (.ref 0), some (.int x1), none, some (.int x3), none, none], [.int y0], σ) (am_r S_m (fun q τ => q = some (.int r) ∧ τ = σ')) := by
  unfold g_Mo_rowOf_115 at h
  refine a_istore_n i_Mo_rowOf_115 rfl ?_
  refine a_iinc i_Mo_rowOf_116 rfl rfl ?_
  refine a_goto i_Mo_rowOf_119 ?_
  exact hgo h
def g_Mo_rowOf_99 (go : Int32 → Int32 → Int32 → am_S → Option (Int32 × am_S)) (x1 : Int32) (x2 : Int32) (x3 : Int32) (σ : am_S) : Option (Int32 × am_S) :=
  am_gd (inb x3 400) <|
  if (σ.2.1 32 x3.toNatClampNeg) = 0 then
    g_Mo_rowOf_115 go x1 x3 x2 σ
  else
    g_Mo_rowOf_115 go x1 x3 (x3 + 1) σ
set_option maxHeartbeats 4000000 in
theorem t_Mo_rowOf_99 {x1 : Int32} {x2 : Int32} {x3 : Int32} {σ σ' : am_S} {r : Int32} {go : Int32 → Int32 → Int32 → am_S → Option (Int32 × am_S)} (hgo : ∀ {x1 : Int32} {x2 : Int32} {x3 : Int32} {σ σ' : am_S} {r : Int32}, go x1 x2 x3 σ = some (r, σ') → am_A S_m M_Mo_rowOf (9, [some (.ref 0), some (.int x1), some (.int x2), some (.int x3), none, none], [], σ) (am_r S_m (fun q τ => q = some (.int r) ∧ τ = σ'))) (h : g_Mo_rowOf_99 go x1 x2 x3 σ = some (r, σ')) : am_A S_m M_Mo_rowOf (99, [some (.ref 0), some (.int x1), some (.int x2), some (.int x3), none, none], [], σ) (am_r S_m (fun q τ => q = some (.int r) ∧ τ = σ')) := by
  unfold g_Mo_rowOf_99 at h
  refine a_aload_n i_Mo_rowOf_99 rfl ?_
  refine a_get (v := .ref 32) i_Mo_rowOf_100 rfl rfl ?_
  refine a_iload_n i_Mo_rowOf_103 rfl ?_
  obtain ⟨c4, h⟩ := gd_some h
  refine a_bal (n := 400) i_Mo_rowOf_104 rfl rfl (inb_in c4) ?_
  by_cases c5 : (σ.2.1 32 x3.toNatClampNeg) = 0
  · rw [if_pos c5] at h
    refine a_ift i_Mo_rowOf_105 c5 ?_
    refine a_iload_n i_Mo_rowOf_114 rfl ?_
    exact am_wk (t_Mo_rowOf_115 hgo h) ⟨Or.inr rfl, Or.inr rfl, Or.inl rfl, Or.inr rfl, Or.inl rfl, Or.inl rfl, trivial⟩
  · rw [if_neg c5] at h
    refine a_iff i_Mo_rowOf_105 c5 ?_
    refine a_iload_n i_Mo_rowOf_108 rfl ?_
    refine a_iconst i_Mo_rowOf_109 ?_
    refine a_iadd i_Mo_rowOf_110 ?_
    refine a_goto i_Mo_rowOf_111 ?_
    exact am_wk (t_Mo_rowOf_115 hgo h) ⟨Or.inr rfl, Or.inr rfl, Or.inl rfl, Or.inr rfl, Or.inl rfl, Or.inl rfl, trivial⟩
def g_Mo_rowOf_9 : Nat → Int32 → Int32 → Int32 → am_S → Option (Int32 × am_S)
  | 0, _, _, _, _ => none
  | n + 1, x1, x2, x3, σ =>
  am_gd (inb (x1 + 1) 5) <|
  if x3 < (σ.2.1 28 (x1 + 1).toNatClampNeg) then
    am_gd (inb x3 400) <|
    if (σ.2.1 32 x3.toNatClampNeg) = 0 then
      g_Mo_rowOf_99 (g_Mo_rowOf_9 n) x1 x2 x3 σ
    else
      am_gd (inb x2 400) <|
      am_gd (inb x3 400) <|
      am_bd (g_Mo_isWithin (σ.1.2 0 59) (σ.2.2 30 x2.toNatClampNeg) (σ.2.2 30 x3.toNatClampNeg) σ) fun v24 σ24 =>
      if v24 = 0 then
        g_Mo_rowOf_99 (g_Mo_rowOf_9 n) x1 x2 x3 σ24
      else
        g_Mo_rowOf_58 4000 x3 x2 x2 σ24
  else
    some ((-1), σ)
set_option maxHeartbeats 4000000 in
theorem t_Mo_rowOf_9 : ∀ (n : Nat) {x1 : Int32} {x2 : Int32} {x3 : Int32} {σ σ' : am_S} {r : Int32} (h : g_Mo_rowOf_9 n x1 x2 x3 σ = some (r, σ')), am_A S_m M_Mo_rowOf (9, [some (.ref 0), some (.int x1), some (.int x2), some (.int x3), none, none], [], σ) (am_r S_m (fun q τ => q = some (.int r) ∧ τ = σ')) := by
  intro n
  induction n with
  | zero =>
    intro x1 x2 x3 σ σ' r h
    cases h
  | succ n ih =>
  intro x1 x2 x3 σ σ' r h
  unfold g_Mo_rowOf_9 at h
  refine a_iload_n i_Mo_rowOf_9 rfl ?_
  refine a_aload_n i_Mo_rowOf_10 rfl ?_
  refine a_get (v := .ref 28) i_Mo_rowOf_11 rfl rfl ?_
  refine a_iload_n i_Mo_rowOf_14 rfl ?_
  refine a_iconst i_Mo_rowOf_15 ?_
  refine a_iadd i_Mo_rowOf_16 ?_
  obtain ⟨c7, h⟩ := gd_some h
  refine a_ial (n := 5) i_Mo_rowOf_17 (by decide) rfl rfl (inb_in c7) ?_
  by_cases c8 : x3 < (σ.2.1 28 (x1 + 1).toNatClampNeg)
  · rw [if_pos c8] at h
    refine a_icf i_Mo_rowOf_18 (Int32.not_le.mpr c8) ?_
    refine a_aload_n i_Mo_rowOf_21 rfl ?_
    refine a_get (v := .ref 32) i_Mo_rowOf_22 rfl rfl ?_
    refine a_iload_n i_Mo_rowOf_25 rfl ?_
    obtain ⟨c12, h⟩ := gd_some h
    refine a_bal (n := 400) i_Mo_rowOf_26 rfl rfl (inb_in c12) ?_
    by_cases c13 : (σ.2.1 32 x3.toNatClampNeg) = 0
    · rw [if_pos c13] at h
      refine a_ift i_Mo_rowOf_27 c13 ?_
      exact t_Mo_rowOf_99 (fun h => ih h) h
    · rw [if_neg c13] at h
      refine a_iff i_Mo_rowOf_27 c13 ?_
      refine a_aload_n i_Mo_rowOf_30 rfl ?_
      refine a_get (v := .long (σ.1.2 0 59)) i_Mo_rowOf_31 rfl rfl ?_
      refine a_aload_n i_Mo_rowOf_34 rfl ?_
      refine a_get (v := .ref 30) i_Mo_rowOf_35 rfl rfl ?_
      refine a_iload_n i_Mo_rowOf_38 rfl ?_
      obtain ⟨c19, h⟩ := gd_some h
      refine a_lal (n := 400) i_Mo_rowOf_39 rfl rfl (inb_in c19) ?_
      refine a_aload_n i_Mo_rowOf_40 rfl ?_
      refine a_get (v := .ref 30) i_Mo_rowOf_41 rfl rfl ?_
      refine a_iload_n i_Mo_rowOf_44 rfl ?_
      obtain ⟨c23, h⟩ := gd_some h
      refine a_lal (n := 400) i_Mo_rowOf_45 rfl rfl (inb_in c23) ?_
      obtain ⟨v24, σ24, e24, h⟩ := am_bd_some h
      refine am_csd (rest := []) [.long (σ.1.2 0 59), .long (σ.2.2 30 x2.toNatClampNeg), .long (σ.2.2 30 x3.toNatClampNeg)] c_Mo_rowOf_46 rfl (Nat.le_of_ble_eq_true rfl) (t_Mo_isWithin e24) ?_
      by_cases c25 : v24 = 0
      · rw [if_pos c25] at h
        refine a_ift i_Mo_rowOf_49 c25 ?_
        exact t_Mo_rowOf_99 (fun h => ih h) h
      · rw [if_neg c25] at h
        refine a_iff i_Mo_rowOf_49 c25 ?_
        refine a_iload_n i_Mo_rowOf_52 rfl ?_
        refine a_istore i_Mo_rowOf_53 rfl ?_
        refine a_iload_n i_Mo_rowOf_55 rfl ?_
        refine a_istore i_Mo_rowOf_56 rfl ?_
        exact am_wk (t_Mo_rowOf_58 4000 h) ⟨Or.inr rfl, Or.inl rfl, Or.inl rfl, Or.inr rfl, Or.inr rfl, Or.inr rfl, trivial⟩
  · rw [if_neg c8] at h
    refine a_ict i_Mo_rowOf_18 (Int32.not_lt.mp c8) ?_
    refine a_iconst i_Mo_rowOf_122 ?_
    exact am_ret_i ok_Mo_rowOf rfl rfl (am_lf_i h)
def g_Mo_rowOf (x1 : Int32) (σ : am_S) : Option (Int32 × am_S) :=
  am_gd (inb x1 5) <|
  g_Mo_rowOf_9 4000 x1 (σ.2.1 28 x1.toNatClampNeg) (σ.2.1 28 x1.toNatClampNeg) σ
set_option maxHeartbeats 4000000 in
theorem t_Mo_rowOf_0 {x1 : Int32} {σ σ' : am_S} {r : Int32} (h : g_Mo_rowOf x1 σ = some (r, σ')) : am_A S_m M_Mo_rowOf (0, [some (.ref 0), some (.int x1), none, none, none, none], [], σ) (am_r S_m (fun q τ => q = some (.int r) ∧ τ = σ')) := by
  unfold g_Mo_rowOf at h
  refine a_aload_n i_Mo_rowOf_0 rfl ?_
  refine a_get (v := .ref 28) i_Mo_rowOf_1 rfl rfl ?_
  refine a_iload_n i_Mo_rowOf_4 rfl ?_
  obtain ⟨c4, h⟩ := gd_some h
  refine a_ial (n := 5) i_Mo_rowOf_5 (by decide) rfl rfl (inb_in c4) ?_
  refine a_istore_n i_Mo_rowOf_6 rfl ?_
  refine a_iload_n i_Mo_rowOf_7 rfl ?_
  refine a_istore_n i_Mo_rowOf_8 rfl ?_
  exact t_Mo_rowOf_9 4000 h
theorem t_Mo_rowOf {x1 : Int32} {σ σ' : am_S} {r : Int32} (h : g_Mo_rowOf x1 σ = some (r, σ')) : am_Mt S_m M_Mo_rowOf [.ref 0, .int x1] σ (fun q τ => q = some (.int r) ∧ τ = σ') :=
  am_M_of ok_Mo_rowOf (Nat.le_of_ble_eq_true rfl) (t_Mo_rowOf_0 h)
def g_Mo_file_20 (σ : am_S) : Option (Int32 × am_S) :=
  some ((-1), σ)
set_option maxHeartbeats 4000000 in
theorem t_Mo_file_20 {σ σ' : am_S} {r : Int32} (h : g_Mo_file_20 σ = some (r, σ')) : am_A S_m M_Mo_file (20, [none, none, none, none, none, none, none, none, none], [], σ) (am_r S_m (fun q τ => q = some (.int r) ∧ τ = σ')) := by
  unfold g_Mo_file_20 at h
  refine a_iconst i_Mo_file_20 ?_
  exact am_ret_i ok_Mo_file rfl rfl (am_lf_i h)
def g_Mo_file_163 (y0 : Int32) (σ : am_S) : Option (Int32 × am_S) :=
  some (y0, σ)
set_option maxHeartbeats 4000000 in
theorem t_Mo_file_163 {y0 : Int32} {σ σ' : am_S} {r : Int32} (h : g_Mo_file_163 y0 σ = some (r, σ')) : am_A S_m M_Mo_file (163, [none, none, none, none, none, none, none, none, none], [.int y0], σ) (am_r S_m (fun q τ => q = some (.int r) ∧ τ = σ')) := by
  unfold g_Mo_file_163 at h
  exact am_ret_i ok_Mo_file rfl rfl (am_lf_i h)
def g_Mo_file_121 (x2 : Int32) (x3 : Int32) (y0 : Int64) (σ : am_S) : Option (Int32 × am_S) :=
  am_gd (inb x3 4) <|
  am_bd (g_Mo_in y0 (0) (((σ.2.1 25 x3.toNatClampNeg).toInt64) - 1) σ) fun v11 σ11 =>
  if v11 = 0 then
    g_Mo_file_163 (-1) σ11
  else
    am_gd (inb ((30 * x3) + y0.toInt32) 120) <|
    am_bd (g_Mo_character (σ11.2.1 26 ((30 * x3) + y0.toInt32).toNatClampNeg) x2 σ11) fun v24 σ24 =>
    g_Mo_file_163 v24 σ24
set_option maxHeartbeats 4000000 in
theorem t_Mo_file_121 {x2 : Int32} {x3 : Int32} {y0 : Int64} {σ σ' : am_S} {r : Int32} (h : g_Mo_file_121 x2 x3 y0 σ = some (r, σ')) : am_A S_m M_Mo_file (121, [some (.ref 0), none, some (.int x2), some (.int x3), none, none, none, none, none], [.long y0], σ) (am_r S_m (fun q τ => q = some (.int r) ∧ τ = σ')) := by
  unfold g_Mo_file_121 at h
  refine a_lstore i_Mo_file_121 rfl ?_
  refine a_lload i_Mo_file_123 rfl ?_
  refine a_lconst i_Mo_file_125 ?_
  refine a_aload_n i_Mo_file_126 rfl ?_
  refine a_get (v := .ref 25) i_Mo_file_127 rfl rfl ?_
  refine a_iload_n i_Mo_file_130 rfl ?_
  obtain ⟨c7, h⟩ := gd_some h
  refine a_ial (n := 4) i_Mo_file_131 (by decide) rfl rfl (inb_in c7) ?_
  refine a_i2l i_Mo_file_132 ?_
  refine a_lconst i_Mo_file_133 ?_
  refine a_lsub i_Mo_file_134 ?_
  obtain ⟨v11, σ11, e11, h⟩ := am_bd_some h
  refine am_csd (rest := []) [.long y0, .long 0, .long (((σ.2.1 25 x3.toNatClampNeg).toInt64) - 1)] c_Mo_file_135 rfl (Nat.le_of_ble_eq_true rfl) (t_Mo_in e11) ?_
  by_cases c12 : v11 = 0
  · rw [if_pos c12] at h
    refine a_ift i_Mo_file_138 c12 ?_
    refine a_iconst i_Mo_file_162 ?_
    exact am_wk (t_Mo_file_163 h) ⟨Or.inl rfl, Or.inl rfl, Or.inl rfl, Or.inl rfl, Or.inl rfl, Or.inl rfl, Or.inl rfl, Or.inl rfl, Or.inl rfl, trivial⟩
  · rw [if_neg c12] at h
    refine a_iff i_Mo_file_138 c12 ?_
    refine a_aload_n i_Mo_file_141 rfl ?_
    refine a_aload_n i_Mo_file_142 rfl ?_
    refine a_get (v := .ref 26) i_Mo_file_143 rfl rfl ?_
    refine a_bipush i_Mo_file_146 ?_
    refine a_iload_n i_Mo_file_148 rfl ?_
    refine a_imul i_Mo_file_149 ?_
    refine a_lload i_Mo_file_150 rfl ?_
    refine a_l2i i_Mo_file_152 ?_
    refine a_iadd i_Mo_file_153 ?_
    obtain ⟨c22, h⟩ := gd_some h
    refine a_ial (n := 120) i_Mo_file_154 (by decide) rfl rfl (inb_in c22) ?_
    refine a_iload_n i_Mo_file_155 rfl ?_
    obtain ⟨v24, σ24, e24, h⟩ := am_bd_some h
    refine am_cvd (rest := []) [.int (σ11.2.1 26 ((30 * x3) + y0.toInt32).toNatClampNeg), .int x2] c_Mo_file_156 ⟨by decide, _, rfl⟩ rfl (Nat.le_of_ble_eq_true rfl) (t_Mo_character e24) ?_
    refine a_goto i_Mo_file_159 ?_
    exact am_wk (t_Mo_file_163 h) ⟨Or.inl rfl, Or.inl rfl, Or.inl rfl, Or.inl rfl, Or.inl rfl, Or.inl rfl, Or.inl rfl, Or.inl rfl, Or.inl rfl, trivial⟩
def g_Mo_file_87 (x1 : Int32) (x2 : Int32) (x3 : Int32) (x4 : Int32) (x5 : Int32) (y0 : Int32) (σ : am_S) : Option (Int32 × am_S) :=
  if y0 = 0 then
    g_Mo_file_121 x2 x3 (-1) σ
  else
    if x1 = 0 then
      am_gd (inb x4 400) <|
      g_Mo_file_121 x2 x3 (σ.2.2 31 x4.toNatClampNeg) σ
    else
      am_bd (g_Mo_valueAt x5 (5) σ) fun v9 σ9 =>
      g_Mo_file_121 x2 x3 v9 σ9
set_option maxHeartbeats 4000000 in
theorem t_Mo_file_87 {x1 : Int32} {x2 : Int32} {x3 : Int32} {x4 : Int32} {x5 : Int32} {y0 : Int32} {σ σ' : am_S} {r : Int32} (h : g_Mo_file_87 x1 x2 x3 x4 x5 y0 σ = some (r, σ')) : am_A S_m M_Mo_file (87, [some (.ref 0), some (.int x1), some (.int x2), some (.int x3), some (.int x4), some (.int x5), none, none, none], [.int y0], σ) (am_r S_m (fun q τ => q = some (.int r) ∧ τ = σ')) := by
  unfold g_Mo_file_87 at h
  refine a_istore i_Mo_file_87 rfl ?_
  refine a_iload i_Mo_file_89 rfl ?_
  by_cases c3 : y0 = 0
  · rw [if_pos c3] at h
    refine a_iff i_Mo_file_91 c3 ?_
    refine a_ldc2 i_Mo_file_94 ?_
    refine a_goto i_Mo_file_97 ?_
    exact am_wk (t_Mo_file_121 h) ⟨Or.inr rfl, Or.inl rfl, Or.inr rfl, Or.inr rfl, Or.inl rfl, Or.inl rfl, Or.inl rfl, Or.inl rfl, Or.inl rfl, trivial⟩
  · rw [if_neg c3] at h
    refine a_ift i_Mo_file_91 c3 ?_
    refine a_iload_n i_Mo_file_100 rfl ?_
    by_cases c5 : x1 = 0
    · rw [if_pos c5] at h
      refine a_iff i_Mo_file_101 c5 ?_
      refine a_aload_n i_Mo_file_104 rfl ?_
      refine a_get (v := .ref 31) i_Mo_file_105 rfl rfl ?_
      refine a_iload i_Mo_file_108 rfl ?_
      obtain ⟨c9, h⟩ := gd_some h
      refine a_lal (n := 400) i_Mo_file_110 rfl rfl (inb_in c9) ?_
      refine a_goto i_Mo_file_111 ?_
      exact am_wk (t_Mo_file_121 h) ⟨Or.inr rfl, Or.inl rfl, Or.inr rfl, Or.inr rfl, Or.inl rfl, Or.inl rfl, Or.inl rfl, Or.inl rfl, Or.inl rfl, trivial⟩
    · rw [if_neg c5] at h
      refine a_ift i_Mo_file_101 c5 ?_
      refine a_aload_n i_Mo_file_114 rfl ?_
      refine a_iload i_Mo_file_115 rfl ?_
      refine a_iconst i_Mo_file_117 ?_
      obtain ⟨v9, σ9, e9, h⟩ := am_bd_some h
      refine am_cvd (rest := []) [.int x5, .int 5] c_Mo_file_118 ⟨by decide, _, rfl⟩ rfl (Nat.le_of_ble_eq_true rfl) (t_Mo_valueAt e9) ?_
      exact am_wk (t_Mo_file_121 h) ⟨Or.inr rfl, Or.inl rfl, Or.inr rfl, Or.inr rfl, Or.inl rfl, Or.inl rfl, Or.inl rfl, Or.inl rfl, Or.inl rfl, trivial⟩
def g_Mo_file_60 (x1 : Int32) (x2 : Int32) (x3 : Int32) (x4 : Int32) (y0 : Int32) (σ : am_S) : Option (Int32 × am_S) :=
  if x1 = 0 then
    if x4 = (-1) then
      g_Mo_file_87 x1 x2 x3 x4 y0 (0) σ
    else
      g_Mo_file_87 x1 x2 x3 x4 y0 (1) σ
  else
    am_bd (g_Mo_has y0 (5) σ) fun v7 σ7 =>
    g_Mo_file_87 x1 x2 x3 x4 y0 v7 σ7
set_option maxHeartbeats 4000000 in
theorem t_Mo_file_60 {x1 : Int32} {x2 : Int32} {x3 : Int32} {x4 : Int32} {y0 : Int32} {σ σ' : am_S} {r : Int32} (h : g_Mo_file_60 x1 x2 x3 x4 y0 σ = some (r, σ')) : am_A S_m M_Mo_file (60, [some (.ref 0), some (.int x1), some (.int x2), some (.int x3), some (.int x4), none, none, none, none], [.int y0], σ) (am_r S_m (fun q τ => q = some (.int r) ∧ τ = σ')) := by
  unfold g_Mo_file_60 at h
  refine a_istore i_Mo_file_60 rfl ?_
  refine a_iload_n i_Mo_file_62 rfl ?_
  by_cases c3 : x1 = 0
  · rw [if_pos c3] at h
    refine a_iff i_Mo_file_63 c3 ?_
    refine a_iload i_Mo_file_66 rfl ?_
    refine a_iconst i_Mo_file_68 ?_
    by_cases c6 : x4 = (-1)
    · rw [if_pos c6] at h
      refine a_ict i_Mo_file_69 c6 ?_
      refine a_iconst i_Mo_file_76 ?_
      refine a_goto i_Mo_file_77 ?_
      exact t_Mo_file_87 h
    · rw [if_neg c6] at h
      refine a_icf i_Mo_file_69 c6 ?_
      refine a_iconst i_Mo_file_72 ?_
      refine a_goto i_Mo_file_73 ?_
      exact t_Mo_file_87 h
  · rw [if_neg c3] at h
    refine a_ift i_Mo_file_63 c3 ?_
    refine a_aload_n i_Mo_file_80 rfl ?_
    refine a_iload i_Mo_file_81 rfl ?_
    refine a_iconst i_Mo_file_83 ?_
    obtain ⟨v7, σ7, e7, h⟩ := am_bd_some h
    refine am_cvd (rest := []) [.int y0, .int 5] c_Mo_file_84 ⟨by decide, _, rfl⟩ rfl (Nat.le_of_ble_eq_true rfl) (t_Mo_has e7) ?_
    exact t_Mo_file_87 h
def g_Mo_file (x1 : Int32) (x2 : Int32) (σ : am_S) : Option (Int32 × am_S) :=
  am_bd (g_Mo_isFrame x1 (am_fi σ 0 1 0)) fun v6 σ6 =>
  if v6 = 0 then
    g_Mo_file_20 σ6
  else
    if (σ6.1.1 0 55) = 0 then
      g_Mo_file_20 σ6
    else
      am_gd (inb 0 200) <|
      am_gd (inb (σ6.2.1 33 (0 : Int32).toNatClampNeg) 200) <|
      am_bd (g_Mo_rowOf (σ6.2.1 19 (σ6.2.1 33 (0 : Int32).toNatClampNeg).toNatClampNeg) σ6) fun v21 σ21 =>
      if x1 = 0 then
        g_Mo_file_60 x1 x2 (σ6.2.1 19 (σ6.2.1 33 (0 : Int32).toNatClampNeg).toNatClampNeg) v21 (-1) σ21
      else
        am_gd (inb ((σ21.1.1 0 55) - x1) 200) <|
        g_Mo_file_60 x1 x2 (σ6.2.1 19 (σ6.2.1 33 (0 : Int32).toNatClampNeg).toNatClampNeg) v21 (σ21.2.1 33 ((σ21.1.1 0 55) - x1).toNatClampNeg) σ21
set_option maxHeartbeats 4000000 in
theorem t_Mo_file_0 {x1 : Int32} {x2 : Int32} {σ σ' : am_S} {r : Int32} (h : g_Mo_file x1 x2 σ = some (r, σ')) : am_A S_m M_Mo_file (0, [some (.ref 0), some (.int x1), some (.int x2), none, none, none, none, none, none], [], σ) (am_r S_m (fun q τ => q = some (.int r) ∧ τ = σ')) := by
  unfold g_Mo_file at h
  refine a_aload_n i_Mo_file_0 rfl ?_
  refine a_iconst i_Mo_file_1 ?_
  refine a_puti i_Mo_file_2 rfl trivial ?_
  refine a_aload_n i_Mo_file_5 rfl ?_
  refine a_iload_n i_Mo_file_6 rfl ?_
  obtain ⟨v6, σ6, e6, h⟩ := am_bd_some h
  refine am_cvd (rest := []) [.int x1] c_Mo_file_7 ⟨by decide, _, rfl⟩ rfl (Nat.le_of_ble_eq_true rfl) (t_Mo_isFrame e6) ?_
  by_cases c7 : v6 = 0
  · rw [if_pos c7] at h
    refine a_ift i_Mo_file_10 c7 ?_
    exact am_wk (t_Mo_file_20 h) ⟨Or.inl rfl, Or.inl rfl, Or.inl rfl, Or.inl rfl, Or.inl rfl, Or.inl rfl, Or.inl rfl, Or.inl rfl, Or.inl rfl, trivial⟩
  · rw [if_neg c7] at h
    refine a_iff i_Mo_file_10 c7 ?_
    refine a_aload_n i_Mo_file_13 rfl ?_
    refine a_get (v := .int (σ6.1.1 0 55)) i_Mo_file_14 rfl rfl ?_
    by_cases c10 : (σ6.1.1 0 55) = 0
    · rw [if_pos c10] at h
      refine a_iff i_Mo_file_17 c10 ?_
      exact am_wk (t_Mo_file_20 h) ⟨Or.inl rfl, Or.inl rfl, Or.inl rfl, Or.inl rfl, Or.inl rfl, Or.inl rfl, Or.inl rfl, Or.inl rfl, Or.inl rfl, trivial⟩
    · rw [if_neg c10] at h
      refine a_ift i_Mo_file_17 c10 ?_
      refine a_aload_n i_Mo_file_22 rfl ?_
      refine a_get (v := .ref 19) i_Mo_file_23 rfl rfl ?_
      refine a_aload_n i_Mo_file_26 rfl ?_
      refine a_get (v := .ref 33) i_Mo_file_27 rfl rfl ?_
      refine a_iconst i_Mo_file_30 ?_
      obtain ⟨c16, h⟩ := gd_some h
      refine a_ial (n := 200) i_Mo_file_31 (by decide) rfl rfl (inb_in c16) ?_
      obtain ⟨c17, h⟩ := gd_some h
      refine a_ial (n := 200) i_Mo_file_32 (by decide) rfl rfl (inb_in c17) ?_
      refine a_istore_n i_Mo_file_33 rfl ?_
      refine a_aload_n i_Mo_file_34 rfl ?_
      refine a_iload_n i_Mo_file_35 rfl ?_
      obtain ⟨v21, σ21, e21, h⟩ := am_bd_some h
      refine am_cvd (rest := []) [.int (σ6.2.1 19 (σ6.2.1 33 (0 : Int32).toNatClampNeg).toNatClampNeg)] c_Mo_file_36 ⟨by decide, _, rfl⟩ rfl (Nat.le_of_ble_eq_true rfl) (t_Mo_rowOf e21) ?_
      refine a_istore i_Mo_file_39 rfl ?_
      refine a_iload_n i_Mo_file_41 rfl ?_
      by_cases c24 : x1 = 0
      · rw [if_pos c24] at h
        refine a_iff i_Mo_file_42 c24 ?_
        refine a_iconst i_Mo_file_45 ?_
        refine a_goto i_Mo_file_46 ?_
        exact t_Mo_file_60 h
      · rw [if_neg c24] at h
        refine a_ift i_Mo_file_42 c24 ?_
        refine a_aload_n i_Mo_file_49 rfl ?_
        refine a_get (v := .ref 33) i_Mo_file_50 rfl rfl ?_
        refine a_aload_n i_Mo_file_53 rfl ?_
        refine a_get (v := .int (σ21.1.1 0 55)) i_Mo_file_54 rfl rfl ?_
        refine a_iload_n i_Mo_file_57 rfl ?_
        refine a_isub i_Mo_file_58 ?_
        obtain ⟨c31, h⟩ := gd_some h
        refine a_ial (n := 200) i_Mo_file_59 (by decide) rfl rfl (inb_in c31) ?_
        exact t_Mo_file_60 h
theorem t_Mo_file {x1 : Int32} {x2 : Int32} {σ σ' : am_S} {r : Int32} (h : g_Mo_file x1 x2 σ = some (r, σ')) : am_Mt S_m M_Mo_file [.ref 0, .int x1, .int x2] σ (fun q τ => q = some (.int r) ∧ τ = σ') :=
  am_M_of ok_Mo_file (Nat.le_of_ble_eq_true rfl) (t_Mo_file_0 h)
