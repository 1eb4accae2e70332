def g_Mo_readSections_260 (x8 : Int32) (σ : am_S) : Option (Int32 × am_S) :=
  am_gd (z01 x8) <|
  some (x8, σ)
set_option maxHeartbeats 4000000 in
theorem t_Mo_readSections_260 {x8 : Int32} {σ σ' : am_S} {r : Int32} (h : g_Mo_readSections_260 x8 σ = some (r, σ')) : am_A S_m M_Mo_readSections (260, [none, none, none, none, none, none, none, none, some (.int x8), none], [], σ) (am_r S_m (fun q τ => q = some (.int r) ∧ τ = σ')) := by
  unfold g_Mo_readSections_260 at h
  refine a_iload i_Mo_readSections_260 rfl ?_
  obtain ⟨c2, h⟩ := gd_some h
  exact am_ret_z ok_Mo_readSections rfl rfl (z01_or c2) (am_lf_i h)
def g_Mo_readSections_223 : Nat → Int32 → Int32 → Int32 → Int32 → Int32 → am_S → Option (Int32 × am_S)
  | 0, _, _, _, _, _, _ => none
  | n + 1, x3, x6, x7, x8, x9, σ =>
  if x9 < (σ.1.1 0 9) then
    if x8 = 0 then
      g_Mo_readSections_260 x8 σ
    else
      am_bd (g_Mo_names (x3 + (64 * x9)) x6 x7 σ) fun v15 σ15 =>
      g_Mo_readSections_223 n x3 x6 x7 v15 (x9 + 1) σ15
  else
    g_Mo_readSections_260 x8 σ
set_option maxHeartbeats 4000000 in
theorem t_Mo_readSections_223 : ∀ (n : Nat) {x3 : Int32} {x6 : Int32} {x7 : Int32} {x8 : Int32} {x9 : Int32} {σ σ' : am_S} {r : Int32} (h : g_Mo_readSections_223 n x3 x6 x7 x8 x9 σ = some (r, σ')), am_A S_m M_Mo_readSections (223, [some (.ref 0), none, none, some (.int x3), none, none, some (.int x6), some (.int x7), some (.int x8), some (.int x9)], [], σ) (am_r S_m (fun q τ => q = some (.int r) ∧ τ = σ')) := by
  intro n
  induction n with
  | zero =>
    intro x3 x6 x7 x8 x9 σ σ' r h
    cases h
  | succ n ih =>
  intro x3 x6 x7 x8 x9 σ σ' r h
  unfold g_Mo_readSections_223 at h
  refine a_iload i_Mo_readSections_223 rfl ?_
  refine a_aload_n i_Mo_readSections_225 rfl ?_
  refine a_get (v := .int (σ.1.1 0 9)) i_Mo_readSections_226 rfl rfl ?_
  by_cases c4 : x9 < (σ.1.1 0 9)
  · rw [if_pos c4] at h
    refine a_icf i_Mo_readSections_229 (Int32.not_le.mpr c4) ?_
    refine a_iload i_Mo_readSections_232 rfl ?_
    by_cases c6 : x8 = 0
    · rw [if_pos c6] at h
      refine a_ift i_Mo_readSections_234 c6 ?_
      exact am_wk (t_Mo_readSections_260 h) ⟨Or.inl rfl, Or.inl rfl, Or.inl rfl, Or.inl rfl, Or.inl rfl, Or.inl rfl, Or.inl rfl, Or.inl rfl, Or.inr rfl, Or.inl rfl, trivial⟩
    · rw [if_neg c6] at h
      refine a_iff i_Mo_readSections_234 c6 ?_
      refine a_aload_n i_Mo_readSections_237 rfl ?_
      refine a_iload_n i_Mo_readSections_238 rfl ?_
      refine a_bipush i_Mo_readSections_239 ?_
      refine a_iload i_Mo_readSections_241 rfl ?_
      refine a_imul i_Mo_readSections_243 ?_
      refine a_iadd i_Mo_readSections_244 ?_
      refine a_iload i_Mo_readSections_245 rfl ?_
      refine a_iload i_Mo_readSections_247 rfl ?_
      obtain ⟨v15, σ15, e15, h⟩ := am_bd_some h
      refine am_cvd (rest := []) [.int (x3 + (64 * x9)), .int x6, .int x7] c_Mo_readSections_249 ⟨by decide, _, rfl⟩ rfl (Nat.le_of_ble_eq_true rfl) (t_Mo_names e15) ?_
      refine a_istore i_Mo_readSections_252 rfl ?_
      refine a_iinc i_Mo_readSections_254 rfl rfl ?_
      refine a_goto i_Mo_readSections_257 ?_
      exact ih h
  · rw [if_neg c4] at h
    refine a_ict i_Mo_readSections_229 (Int32.not_lt.mp c4) ?_
    exact am_wk (t_Mo_readSections_260 h) ⟨Or.inl rfl, Or.inl rfl, Or.inl rfl, Or.inl rfl, Or.inl rfl, Or.inl rfl, Or.inl rfl, Or.inl rfl, Or.inr rfl, Or.inl rfl, trivial⟩
def g_Mo_readSections_215 (x3 : Int32) (x6 : Int32) (y0 : Int32) (σ : am_S) : Option (Int32 × am_S) :=
  g_Mo_readSections_223 4000 x3 x6 y0 (1) (0) σ
set_option maxHeartbeats 4000000 in
theorem t_Mo_readSections_215 {x3 : Int32} {x6 : Int32} {y0 : Int32} {σ σ' : am_S} {r : Int32} (h : g_Mo_readSections_215 x3 x6 y0 σ = some (r, σ')) : am_A S_m M_Mo_readSections (215, [some (.ref 0), none, none, some (.int x3), none, none, some (.int x6), none, none, none], [.int y0], σ) (am_r S_m (fun q τ => q = some (.int r) ∧ τ = σ')) := by
  unfold g_Mo_readSections_215 at h
  refine a_istore i_Mo_readSections_215 rfl ?_
  refine a_iconst i_Mo_readSections_217 ?_
  refine a_istore i_Mo_readSections_218 rfl ?_
  refine a_iconst i_Mo_readSections_220 ?_
  refine a_istore i_Mo_readSections_221 rfl ?_
  exact t_Mo_readSections_223 4000 h
def g_Mo_readSections_189 (x3 : Int32) (x4 : Int32) (x5 : Int32) (y0 : Int32) (σ : am_S) : Option (Int32 × am_S) :=
  if x5 = 0 then
    am_bd (g_Mo_peek (x4 + 32) (8) σ) fun v10 σ10 =>
    g_Mo_readSections_215 x3 y0 (y0 + v10.toInt32) σ10
  else
    g_Mo_readSections_215 x3 y0 (0) σ
set_option maxHeartbeats 4000000 in
theorem t_Mo_readSections_189 {x3 : Int32} {x4 : Int32} {x5 : Int32} {y0 : Int32} {σ σ' : am_S} {r : Int32} (h : g_Mo_readSections_189 x3 x4 x5 y0 σ = some (r, σ')) : am_A S_m M_Mo_readSections (189, [some (.ref 0), none, none, some (.int x3), some (.int x4), some (.int x5), none, none, none, none], [.int y0], σ) (am_r S_m (fun q τ => q = some (.int r) ∧ τ = σ')) := by
  unfold g_Mo_readSections_189 at h
  refine a_istore i_Mo_readSections_189 rfl ?_
  refine a_iload i_Mo_readSections_191 rfl ?_
  by_cases c3 : x5 = 0
  · rw [if_pos c3] at h
    refine a_ift i_Mo_readSections_193 c3 ?_
    refine a_iload i_Mo_readSections_200 rfl ?_
    refine a_aload_n i_Mo_readSections_202 rfl ?_
    refine a_iload i_Mo_readSections_203 rfl ?_
    refine a_bipush i_Mo_readSections_205 ?_
    refine a_iadd i_Mo_readSections_207 ?_
    refine a_bipush i_Mo_readSections_208 ?_
    obtain ⟨v10, σ10, e10, h⟩ := am_bd_some h
    refine am_cvd (rest := [.int y0]) [.int (x4 + 32), .int 8] c_Mo_readSections_210 ⟨by decide, _, rfl⟩ rfl (Nat.le_of_ble_eq_true rfl) (t_Mo_peek e10) ?_
    refine a_l2i i_Mo_readSections_213 ?_
    refine a_iadd i_Mo_readSections_214 ?_
    exact am_wk (t_Mo_readSections_215 h) ⟨Or.inr rfl, Or.inl rfl, Or.inl rfl, Or.inr rfl, Or.inl rfl, Or.inl rfl, Or.inr rfl, Or.inl rfl, Or.inl rfl, Or.inl rfl, trivial⟩
  · rw [if_neg c3] at h
    refine a_iff i_Mo_readSections_193 c3 ?_
    refine a_iconst i_Mo_readSections_196 ?_
    refine a_goto i_Mo_readSections_197 ?_
    exact am_wk (t_Mo_readSections_215 h) ⟨Or.inr rfl, Or.inl rfl, Or.inl rfl, Or.inr rfl, Or.inl rfl, Or.inl rfl, Or.inr rfl, Or.inl rfl, Or.inl rfl, Or.inl rfl, trivial⟩
def g_Mo_readSections_166 (x3 : Int32) (x4 : Int32) (y0 : Int32) (σ : am_S) : Option (Int32 × am_S) :=
  if y0 = 0 then
    am_bd (g_Mo_peek (x4 + 24) (8) σ) fun v9 σ9 =>
    g_Mo_readSections_189 x3 x4 y0 v9.toInt32 σ9
  else
    g_Mo_readSections_189 x3 x4 y0 (0) σ
set_option maxHeartbeats 4000000 in
theorem t_Mo_readSections_166 {x3 : Int32} {x4 : Int32} {y0 : Int32} {σ σ' : am_S} {r : Int32} (h : g_Mo_readSections_166 x3 x4 y0 σ = some (r, σ')) : am_A S_m M_Mo_readSections (166, [some (.ref 0), none, none, some (.int x3), some (.int x4), none, none, none, none, none], [.int y0], σ) (am_r S_m (fun q τ => q = some (.int r) ∧ τ = σ')) := by
  unfold g_Mo_readSections_166 at h
  refine a_istore i_Mo_readSections_166 rfl ?_
  refine a_iload i_Mo_readSections_168 rfl ?_
  by_cases c3 : y0 = 0
  · rw [if_pos c3] at h
    refine a_ift i_Mo_readSections_170 c3 ?_
    refine a_aload_n i_Mo_readSections_177 rfl ?_
    refine a_iload i_Mo_readSections_178 rfl ?_
    refine a_bipush i_Mo_readSections_180 ?_
    refine a_iadd i_Mo_readSections_182 ?_
    refine a_bipush i_Mo_readSections_183 ?_
    obtain ⟨v9, σ9, e9, h⟩ := am_bd_some h
    refine am_cvd (rest := []) [.int (x4 + 24), .int 8] c_Mo_readSections_185 ⟨by decide, _, rfl⟩ rfl (Nat.le_of_ble_eq_true rfl) (t_Mo_peek e9) ?_
    refine a_l2i i_Mo_readSections_188 ?_
    exact t_Mo_readSections_189 h
  · rw [if_neg c3] at h
    refine a_iff i_Mo_readSections_170 c3 ?_
    refine a_iconst i_Mo_readSections_173 ?_
    refine a_goto i_Mo_readSections_174 ?_
    exact t_Mo_readSections_189 h
def g_Mo_readSections_99 : Nat → Int32 → Int32 → am_S → Option (Int32 × am_S)
  | 0, _, _, _ => none
  | n + 1, x3, x4, σ =>
  if x4 < (σ.1.1 0 9) then
    am_bd (g_Mo_lies (x3 + (64 * x4)) σ) fun v11 σ11 =>
    if v11 = 0 then
      some (0, σ11)
    else
      g_Mo_readSections_99 n x3 (x4 + 1) σ11
  else
    am_bd (g_Mo_peek (62) (2) σ) fun v10 σ10 =>
    am_bd (g_Mo_peek ((x3 + (64 * v10.toInt32)) + 4) (4) σ10) fun v20 σ20 =>
    if (lg_cmp v20 8) = 0 then
      g_Mo_readSections_166 x3 (x3 + (64 * v10.toInt32)) (1) σ20
    else
      g_Mo_readSections_166 x3 (x3 + (64 * v10.toInt32)) (0) σ20
set_option maxHeartbeats 4000000 in
theorem t_Mo_readSections_99 : ∀ (n : Nat) {x3 : Int32} {x4 : Int32} {σ σ' : am_S} {r : Int32} (h : g_Mo_readSections_99 n x3 x4 σ = some (r, σ')), am_A S_m M_Mo_readSections (99, [some (.ref 0), none, none, some (.int x3), some (.int x4), none, none, none, none, none], [], σ) (am_r S_m (fun q τ => q = some (.int r) ∧ τ = σ')) := by
  intro n
  induction n with
  | zero =>
    intro x3 x4 σ σ' r h
    cases h
  | succ n ih =>
  intro x3 x4 σ σ' r h
  unfold g_Mo_readSections_99 at h
  refine a_iload i_Mo_readSections_99 rfl ?_
  refine a_aload_n i_Mo_readSections_101 rfl ?_
  refine a_get (v := .int (σ.1.1 0 9)) i_Mo_readSections_102 rfl rfl ?_
  by_cases c4 : x4 < (σ.1.1 0 9)
  · rw [if_pos c4] at h
    refine a_icf i_Mo_readSections_105 (Int32.not_le.mpr c4) ?_
    refine a_aload_n i_Mo_readSections_108 rfl ?_
    refine a_iload_n i_Mo_readSections_109 rfl ?_
    refine a_bipush i_Mo_readSections_110 ?_
    refine a_iload i_Mo_readSections_112 rfl ?_
    refine a_imul i_Mo_readSections_114 ?_
    refine a_iadd i_Mo_readSections_115 ?_
    obtain ⟨v11, σ11, e11, h⟩ := am_bd_some h
    refine am_cvd (rest := []) [.int (x3 + (64 * x4))] c_Mo_readSections_116 ⟨by decide, _, rfl⟩ rfl (Nat.le_of_ble_eq_true rfl) (t_Mo_lies e11) ?_
    by_cases c12 : v11 = 0
    · rw [if_pos c12] at h
      refine a_iff i_Mo_readSections_119 c12 ?_
      refine a_iconst i_Mo_readSections_122 ?_
      exact am_ret_z ok_Mo_readSections rfl rfl (Or.inl rfl) (am_lf_i h)
    · rw [if_neg c12] at h
      refine a_ift i_Mo_readSections_119 c12 ?_
      refine a_iinc i_Mo_readSections_124 rfl rfl ?_
      refine a_goto i_Mo_readSections_127 ?_
      exact ih h
  · rw [if_neg c4] at h
    refine a_ict i_Mo_readSections_105 (Int32.not_lt.mp c4) ?_
    refine a_iload_n i_Mo_readSections_130 rfl ?_
    refine a_bipush i_Mo_readSections_131 ?_
    refine a_aload_n i_Mo_readSections_133 rfl ?_
    refine a_bipush i_Mo_readSections_134 ?_
    refine a_iconst i_Mo_readSections_136 ?_
    obtain ⟨v10, σ10, e10, h⟩ := am_bd_some h
    refine am_cvd (rest := [.int 64, .int x3]) [.int 62, .int 2] c_Mo_readSections_137 ⟨by decide, _, rfl⟩ rfl (Nat.le_of_ble_eq_true rfl) (t_Mo_peek e10) ?_
    refine a_l2i i_Mo_readSections_140 ?_
    refine a_imul i_Mo_readSections_141 ?_
    refine a_iadd i_Mo_readSections_142 ?_
    refine a_istore i_Mo_readSections_143 rfl ?_
    refine a_aload_n i_Mo_readSections_145 rfl ?_
    refine a_iload i_Mo_readSections_146 rfl ?_
    refine a_iconst i_Mo_readSections_148 ?_
    refine a_iadd i_Mo_readSections_149 ?_
    refine a_iconst i_Mo_readSections_150 ?_
    obtain ⟨v20, σ20, e20, h⟩ := am_bd_some h
    refine am_cvd (rest := []) [.int ((x3 + (64 * v10.toInt32)) + 4), .int 4] c_Mo_readSections_151 ⟨by decide, _, rfl⟩ rfl (Nat.le_of_ble_eq_true rfl) (t_Mo_peek e20) ?_
    refine a_ldc2 i_Mo_readSections_154 ?_
    refine a_lcmp i_Mo_readSections_157 ?_
    by_cases c23 : (lg_cmp v20 8) = 0
    · rw [if_pos c23] at h
      refine a_iff i_Mo_readSections_158 c23 ?_
      refine a_iconst i_Mo_readSections_161 ?_
      refine a_goto i_Mo_readSections_162 ?_
      exact t_Mo_readSections_166 h
    · rw [if_neg c23] at h
      refine a_ift i_Mo_readSections_158 c23 ?_
      refine a_iconst i_Mo_readSections_165 ?_
      exact t_Mo_readSections_166 h
def g_Mo_readSections_59 : Nat → Int32 → Int32 → am_S → Option (Int32 × am_S)
  | 0, _, _, _ => none
  | n + 1, x3, x4, σ =>
  if x4 < 10 then
    am_gd (inb x4 10) <|
    am_gd (inb x4 10) <|
    am_gd (inb x4 10) <|
    g_Mo_readSections_59 n x3 (x4 + 1) (am_ai (am_ai (am_ai σ 5 x4.toNatClampNeg (vp_nar .boolean 0)) 3 x4.toNatClampNeg 0) 4 x4.toNatClampNeg 0)
  else
    g_Mo_readSections_99 4000 x3 (0) σ
set_option maxHeartbeats 4000000 in
theorem t_Mo_readSections_59 : ∀ (n : Nat) {x3 : Int32} {x4 : Int32} {σ σ' : am_S} {r : Int32} (h : g_Mo_readSections_59 n x3 x4 σ = some (r, σ')), am_A S_m M_Mo_readSections (59, [some (.ref 0), none, none, some (.int x3), some (.int x4), none, none, none, none, none], [], σ) (am_r S_m (fun q τ => q = some (.int r) ∧ τ = σ')) := by
  intro n
  induction n with
  | zero =>
    intro x3 x4 σ σ' r h
    cases h
  | succ n ih =>
  intro x3 x4 σ σ' r h
  unfold g_Mo_readSections_59 at h
  refine a_iload i_Mo_readSections_59 rfl ?_
  refine a_bipush i_Mo_readSections_61 ?_
  by_cases c3 : x4 < 10
  · rw [if_pos c3] at h
    refine a_icf i_Mo_readSections_63 (Int32.not_le.mpr c3) ?_
    refine a_aload_n i_Mo_readSections_66 rfl ?_
    refine a_get (v := .ref 5) i_Mo_readSections_67 rfl rfl ?_
    refine a_iload i_Mo_readSections_70 rfl ?_
    refine a_iconst i_Mo_readSections_72 ?_
    obtain ⟨c8, h⟩ := gd_some h
    refine a_bas (n := 10) i_Mo_readSections_73 rfl rfl (inb_in c8) ?_
    refine a_aload_n i_Mo_readSections_74 rfl ?_
    refine a_get (v := .ref 3) i_Mo_readSections_75 rfl rfl ?_
    refine a_iload i_Mo_readSections_78 rfl ?_
    refine a_iconst i_Mo_readSections_80 ?_
    obtain ⟨c13, h⟩ := gd_some h
    refine a_ias (n := 10) i_Mo_readSections_81 rfl rfl (inb_in c13) ?_
    refine a_aload_n i_Mo_readSections_82 rfl ?_
    refine a_get (v := .ref 4) i_Mo_readSections_83 rfl rfl ?_
    refine a_iload i_Mo_readSections_86 rfl ?_
    refine a_iconst i_Mo_readSections_88 ?_
    obtain ⟨c18, h⟩ := gd_some h
    refine a_ias (n := 10) i_Mo_readSections_89 rfl rfl (inb_in c18) ?_
    refine a_iinc i_Mo_readSections_90 rfl rfl ?_
    refine a_goto i_Mo_readSections_93 ?_
    exact ih h
  · rw [if_neg c3] at h
    refine a_ict i_Mo_readSections_63 (Int32.not_lt.mp c3) ?_
    refine a_iconst i_Mo_readSections_96 ?_
    refine a_istore i_Mo_readSections_97 rfl ?_
    exact t_Mo_readSections_99 4000 h
def g_Mo_readSections (σ : am_S) : Option (Int32 × am_S) :=
  am_bd (g_Mo_isHead σ) fun v2 σ2 =>
  if v2 = 0 then
    some (0, σ2)
  else
    am_bd (g_Mo_peek (60) (2) σ2) fun v8 σ8 =>
    am_bd (g_Mo_peek (40) (8) (am_fi σ8 0 9 v8.toInt32)) fun v14 σ14 =>
    am_bd (g_Mo_in v14 (0) (((σ14.1.1 0 3) - (64 * (σ14.1.1 0 9))).toInt64) σ14) fun v26 σ26 =>
    if v26 = 0 then
      some (0, σ26)
    else
      g_Mo_readSections_59 4000 v14.toInt32 (0) σ26
set_option maxHeartbeats 4000000 in
theorem t_Mo_readSections_0 {σ σ' : am_S} {r : Int32} (h : g_Mo_readSections σ = some (r, σ')) : am_A S_m M_Mo_readSections (0, [some (.ref 0), none, none, none, none, none, none, none, none, none], [], σ) (am_r S_m (fun q τ => q = some (.int r) ∧ τ = σ')) := by
  unfold g_Mo_readSections at h
  refine a_aload_n i_Mo_readSections_0 rfl ?_
  obtain ⟨v2, σ2, e2, h⟩ := am_bd_some h
  refine am_cvd (rest := []) [] c_Mo_readSections_1 ⟨by decide, _, rfl⟩ rfl (Nat.le_of_ble_eq_true rfl) (t_Mo_isHead e2) ?_
  by_cases c3 : v2 = 0
  · rw [if_pos c3] at h
    refine a_iff i_Mo_readSections_4 c3 ?_
    refine a_iconst i_Mo_readSections_7 ?_
    exact am_ret_z ok_Mo_readSections rfl rfl (Or.inl rfl) (am_lf_i h)
  · rw [if_neg c3] at h
    refine a_ift i_Mo_readSections_4 c3 ?_
    refine a_aload_n i_Mo_readSections_9 rfl ?_
    refine a_aload_n i_Mo_readSections_10 rfl ?_
    refine a_bipush i_Mo_readSections_11 ?_
    refine a_iconst i_Mo_readSections_13 ?_
    obtain ⟨v8, σ8, e8, h⟩ := am_bd_some h
    refine am_cvd (rest := [.ref 0]) [.int 60, .int 2] c_Mo_readSections_14 ⟨by decide, _, rfl⟩ rfl (Nat.le_of_ble_eq_true rfl) (t_Mo_peek e8) ?_
    refine a_l2i i_Mo_readSections_17 ?_
    refine a_puti i_Mo_readSections_18 rfl trivial ?_
    refine a_aload_n i_Mo_readSections_21 rfl ?_
    refine a_bipush i_Mo_readSections_22 ?_
    refine a_bipush i_Mo_readSections_24 ?_
    obtain ⟨v14, σ14, e14, h⟩ := am_bd_some h
    refine am_cvd (rest := []) [.int 40, .int 8] c_Mo_readSections_26 ⟨by decide, _, rfl⟩ rfl (Nat.le_of_ble_eq_true rfl) (t_Mo_peek e14) ?_
    refine a_lstore_n i_Mo_readSections_29 rfl ?_
    refine a_lload_n i_Mo_readSections_30 rfl ?_
    refine a_lconst i_Mo_readSections_31 ?_
    refine a_aload_n i_Mo_readSections_32 rfl ?_
    refine a_get (v := .int (σ14.1.1 0 3)) i_Mo_readSections_33 rfl rfl ?_
    refine a_bipush i_Mo_readSections_36 ?_
    refine a_aload_n i_Mo_readSections_38 rfl ?_
    refine a_get (v := .int (σ14.1.1 0 9)) i_Mo_readSections_39 rfl rfl ?_
    refine a_imul i_Mo_readSections_42 ?_
    refine a_isub i_Mo_readSections_43 ?_
    refine a_i2l i_Mo_readSections_44 ?_
    obtain ⟨v26, σ26, e26, h⟩ := am_bd_some h
    refine am_csd (rest := []) [.long v14, .long 0, .long (((σ14.1.1 0 3) - (64 * (σ14.1.1 0 9))).toInt64)] c_Mo_readSections_45 rfl (Nat.le_of_ble_eq_true rfl) (t_Mo_in e26) ?_
    by_cases c27 : v26 = 0
    · rw [if_pos c27] at h
      refine a_iff i_Mo_readSections_48 c27 ?_
      refine a_iconst i_Mo_readSections_51 ?_
      exact am_ret_z ok_Mo_readSections rfl rfl (Or.inl rfl) (am_lf_i h)
    · rw [if_neg c27] at h
      refine a_ift i_Mo_readSections_48 c27 ?_
      refine a_lload_n i_Mo_readSections_53 rfl ?_
      refine a_l2i i_Mo_readSections_54 ?_
      refine a_istore_n i_Mo_readSections_55 rfl ?_
      refine a_iconst i_Mo_readSections_56 ?_
      refine a_istore i_Mo_readSections_57 rfl ?_
      exact am_wk (t_Mo_readSections_59 4000 h) ⟨Or.inr rfl, Or.inl rfl, Or.inl rfl, Or.inr rfl, Or.inr rfl, Or.inl rfl, Or.inl rfl, Or.inl rfl, Or.inl rfl, Or.inl rfl, trivial⟩
theorem t_Mo_readSections {σ σ' : am_S} {r : Int32} (h : g_Mo_readSections σ = some (r, σ')) : am_Mt S_m M_Mo_readSections [.ref 0] σ (fun q τ => q = some (.int r) ∧ τ = σ') :=
  am_M_of ok_Mo_readSections (Nat.le_of_ble_eq_true rfl) (t_Mo_readSections_0 h)
def g_Mo_isForm_184 (σ : am_S) : Option (Int32 × am_S) :=
  some (1, σ)
set_option maxHeartbeats 4000000 in
theorem t_Mo_isForm_184 {σ σ' : am_S} {r : Int32} (h : g_Mo_isForm_184 σ = some (r, σ')) : am_A S_m M_Mo_isForm (184, [none, none], [], σ) (am_r S_m (fun q τ => q = some (.int r) ∧ τ = σ')) := by
  unfold g_Mo_isForm_184 at h
  refine a_iconst i_Mo_isForm_184 ?_
  exact am_ret_z ok_Mo_isForm rfl rfl (Or.inr rfl) (am_lf_i h)
def g_Mo_isForm_186 (σ : am_S) : Option (Int32 × am_S) :=
  some (1, σ)
set_option maxHeartbeats 4000000 in
theorem t_Mo_isForm_186 {σ σ' : am_S} {r : Int32} (h : g_Mo_isForm_186 σ = some (r, σ')) : am_A S_m M_Mo_isForm (186, [none, none], [], σ) (am_r S_m (fun q τ => q = some (.int r) ∧ τ = σ')) := by
  unfold g_Mo_isForm_186 at h
  refine a_iconst i_Mo_isForm_186 ?_
  exact am_ret_z ok_Mo_isForm rfl rfl (Or.inr rfl) (am_lf_i h)
def g_Mo_isForm_188 (σ : am_S) : Option (Int32 × am_S) :=
  some (0, σ)
set_option maxHeartbeats 4000000 in
theorem t_Mo_isForm_188 {σ σ' : am_S} {r : Int32} (h : g_Mo_isForm_188 σ = some (r, σ')) : am_A S_m M_Mo_isForm (188, [none, none], [], σ) (am_r S_m (fun q τ => q = some (.int r) ∧ τ = σ')) := by
  unfold g_Mo_isForm_188 at h
  refine a_iconst i_Mo_isForm_188 ?_
  exact am_ret_z ok_Mo_isForm rfl rfl (Or.inl rfl) (am_lf_i h)
def g_Mo_isForm_19 (y0 : Int64) (σ : am_S) : Option (Int32 × am_S) :=
  if y0.toInt32 = 1 then
    g_Mo_isForm_184 σ
  else
  if y0.toInt32 = 5 then
    g_Mo_isForm_184 σ
  else
  if y0.toInt32 = 6 then
    g_Mo_isForm_184 σ
  else
  if y0.toInt32 = 7 then
    g_Mo_isForm_184 σ
  else
  if y0.toInt32 = 8 then
    g_Mo_isForm_184 σ
  else
  if y0.toInt32 = 11 then
    g_Mo_isForm_184 σ
  else
  if y0.toInt32 = 13 then
    g_Mo_isForm_184 σ
  else
  if y0.toInt32 = 14 then
    g_Mo_isForm_184 σ
  else
  if y0.toInt32 = 15 then
    g_Mo_isForm_184 σ
  else
  if y0.toInt32 = 19 then
    g_Mo_isForm_186 σ
  else
  if y0.toInt32 = 23 then
    g_Mo_isForm_186 σ
  else
  if y0.toInt32 = 24 then
    g_Mo_isForm_186 σ
  else
  if y0.toInt32 = 25 then
    g_Mo_isForm_186 σ
  else
  if y0.toInt32 = 27 then
    g_Mo_isForm_186 σ
  else
  if y0.toInt32 = 31 then
    g_Mo_isForm_186 σ
  else
  if y0.toInt32 = 33 then
    g_Mo_isForm_186 σ
  else
  if y0.toInt32 = 35 then
    g_Mo_isForm_186 σ
  else
  if y0.toInt32 = 37 then
    g_Mo_isForm_186 σ
  else
  g_Mo_isForm_188 σ
set_option maxHeartbeats 4000000 in
theorem t_Mo_isForm_19 {y0 : Int64} {σ σ' : am_S} {r : Int32} (h : g_Mo_isForm_19 y0 σ = some (r, σ')) : am_A S_m M_Mo_isForm (19, [none, none], [.long y0], σ) (am_r S_m (fun q τ => q = some (.int r) ∧ τ = σ')) := by
  unfold g_Mo_isForm_19 at h
  refine a_l2i i_Mo_isForm_19 ?_
  by_cases d2_0 : y0.toInt32 = 1
  · rw [if_pos d2_0] at h
    refine a_tab 0 i_Mo_isForm_20 rfl (by rw [d2_0]; decide) (by decide) rfl ?_
    exact t_Mo_isForm_184 h
  rw [if_neg d2_0] at h
  by_cases d2_1 : y0.toInt32 = 5
  · rw [if_pos d2_1] at h
    refine a_tab 4 i_Mo_isForm_20 rfl (by rw [d2_1]; decide) (by decide) rfl ?_
    exact t_Mo_isForm_184 h
  rw [if_neg d2_1] at h
  by_cases d2_2 : y0.toInt32 = 6
  · rw [if_pos d2_2] at h
    refine a_tab 5 i_Mo_isForm_20 rfl (by rw [d2_2]; decide) (by decide) rfl ?_
    exact t_Mo_isForm_184 h
  rw [if_neg d2_2] at h
  by_cases d2_3 : y0.toInt32 = 7
  · rw [if_pos d2_3] at h
    refine a_tab 6 i_Mo_isForm_20 rfl (by rw [d2_3]; decide) (by decide) rfl ?_
    exact t_Mo_isForm_184 h
  rw [if_neg d2_3] at h
  by_cases d2_4 : y0.toInt32 = 8
  · rw [if_pos d2_4] at h
    refine a_tab 7 i_Mo_isForm_20 rfl (by rw [d2_4]; decide) (by decide) rfl ?_
    exact t_Mo_isForm_184 h
  rw [if_neg d2_4] at h
  by_cases d2_5 : y0.toInt32 = 11
  · rw [if_pos d2_5] at h
    refine a_tab 10 i_Mo_isForm_20 rfl (by rw [d2_5]; decide) (by decide) rfl ?_
    exact t_Mo_isForm_184 h
  rw [if_neg d2_5] at h
  by_cases d2_6 : y0.toInt32 = 13
  · rw [if_pos d2_6] at h
    refine a_tab 12 i_Mo_isForm_20 rfl (by rw [d2_6]; decide) (by decide) rfl ?_
    exact t_Mo_isForm_184 h
  rw [if_neg d2_6] at h
  by_cases d2_7 : y0.toInt32 = 14
  · rw [if_pos d2_7] at h
    refine a_tab 13 i_Mo_isForm_20 rfl (by rw [d2_7]; decide) (by decide) rfl ?_
    exact t_Mo_isForm_184 h
  rw [if_neg d2_7] at h
  by_cases d2_8 : y0.toInt32 = 15
  · rw [if_pos d2_8] at h
    refine a_tab 14 i_Mo_isForm_20 rfl (by rw [d2_8]; decide) (by decide) rfl ?_
    exact t_Mo_isForm_184 h
  rw [if_neg d2_8] at h
  by_cases d2_9 : y0.toInt32 = 19
  · rw [if_pos d2_9] at h
    refine a_tab 18 i_Mo_isForm_20 rfl (by rw [d2_9]; decide) (by decide) rfl ?_
    exact t_Mo_isForm_186 h
  rw [if_neg d2_9] at h
  by_cases d2_10 : y0.toInt32 = 23
  · rw [if_pos d2_10] at h
    refine a_tab 22 i_Mo_isForm_20 rfl (by rw [d2_10]; decide) (by decide) rfl ?_
    exact t_Mo_isForm_186 h
  rw [if_neg d2_10] at h
  by_cases d2_11 : y0.toInt32 = 24
  · rw [if_pos d2_11] at h
    refine a_tab 23 i_Mo_isForm_20 rfl (by rw [d2_11]; decide) (by decide) rfl ?_
    exact t_Mo_isForm_186 h
  rw [if_neg d2_11] at h
  by_cases d2_12 : y0.toInt32 = 25
  · rw [if_pos d2_12] at h
    refine a_tab 24 i_Mo_isForm_20 rfl (by rw [d2_12]; decide) (by decide) rfl ?_
    exact t_Mo_isForm_186 h
  rw [if_neg d2_12] at h
  by_cases d2_13 : y0.toInt32 = 27
  · rw [if_pos d2_13] at h
    refine a_tab 26 i_Mo_isForm_20 rfl (by rw [d2_13]; decide) (by decide) rfl ?_
    exact t_Mo_isForm_186 h
  rw [if_neg d2_13] at h
  by_cases d2_14 : y0.toInt32 = 31
  · rw [if_pos d2_14] at h
    refine a_tab 30 i_Mo_isForm_20 rfl (by rw [d2_14]; decide) (by decide) rfl ?_
    exact t_Mo_isForm_186 h
  rw [if_neg d2_14] at h
  by_cases d2_15 : y0.toInt32 = 33
  · rw [if_pos d2_15] at h
    refine a_tab 32 i_Mo_isForm_20 rfl (by rw [d2_15]; decide) (by decide) rfl ?_
    exact t_Mo_isForm_186 h
  rw [if_neg d2_15] at h
  by_cases d2_16 : y0.toInt32 = 35
  · rw [if_pos d2_16] at h
    refine a_tab 34 i_Mo_isForm_20 rfl (by rw [d2_16]; decide) (by decide) rfl ?_
    exact t_Mo_isForm_186 h
  rw [if_neg d2_16] at h
  by_cases d2_17 : y0.toInt32 = 37
  · rw [if_pos d2_17] at h
    refine a_tab 36 i_Mo_isForm_20 rfl (by rw [d2_17]; decide) (by decide) rfl ?_
    exact t_Mo_isForm_186 h
  rw [if_neg d2_17] at h
  refine a_tabn [1, 5, 6, 7, 8, 11, 13, 14, 15, 19, 23, 24, 25, 27, 31, 33, 35, 37] i_Mo_isForm_20 rfl rfl (by decide) (List.forall_mem_cons.mpr ⟨lv_neT d2_0 (a := 1) (by decide), List.forall_mem_cons.mpr ⟨lv_neT d2_1 (a := 5) (by decide), List.forall_mem_cons.mpr ⟨lv_neT d2_2 (a := 6) (by decide), List.forall_mem_cons.mpr ⟨lv_neT d2_3 (a := 7) (by decide), List.forall_mem_cons.mpr ⟨lv_neT d2_4 (a := 8) (by decide), List.forall_mem_cons.mpr ⟨lv_neT d2_5 (a := 11) (by decide), List.forall_mem_cons.mpr ⟨lv_neT d2_6 (a := 13) (by decide), List.forall_mem_cons.mpr ⟨lv_neT d2_7 (a := 14) (by decide), List.forall_mem_cons.mpr ⟨lv_neT d2_8 (a := 15) (by decide), List.forall_mem_cons.mpr ⟨lv_neT d2_9 (a := 19) (by decide), List.forall_mem_cons.mpr ⟨lv_neT d2_10 (a := 23) (by decide), List.forall_mem_cons.mpr ⟨lv_neT d2_11 (a := 24) (by decide), List.forall_mem_cons.mpr ⟨lv_neT d2_12 (a := 25) (by decide), List.forall_mem_cons.mpr ⟨lv_neT d2_13 (a := 27) (by decide), List.forall_mem_cons.mpr ⟨lv_neT d2_14 (a := 31) (by decide), List.forall_mem_cons.mpr ⟨lv_neT d2_15 (a := 33) (by decide), List.forall_mem_cons.mpr ⟨lv_neT d2_16 (a := 35) (by decide), List.forall_mem_cons.mpr ⟨lv_neT d2_17 (a := 37) (by decide), fun _ h9 => absurd h9 List.not_mem_nil⟩⟩⟩⟩⟩⟩⟩⟩⟩⟩⟩⟩⟩⟩⟩⟩⟩⟩) ?_
  exact t_Mo_isForm_188 h
def g_Mo_isForm_14 (σ : am_S) : Option (Int32 × am_S) :=
  g_Mo_isForm_19 (0) σ
set_option maxHeartbeats 4000000 in
theorem t_Mo_isForm_14 {σ σ' : am_S} {r : Int32} (h : g_Mo_isForm_14 σ = some (r, σ')) : am_A S_m M_Mo_isForm (14, [none, none], [], σ) (am_r S_m (fun q τ => q = some (.int r) ∧ τ = σ')) := by
  unfold g_Mo_isForm_14 at h
  refine a_lconst i_Mo_isForm_14 ?_
  refine a_goto i_Mo_isForm_15 ?_
  exact t_Mo_isForm_19 h
def g_Mo_isForm (x0 : Int64) (σ : am_S) : Option (Int32 × am_S) :=
  if (lg_cmp x0 0) < 0 then
    g_Mo_isForm_14 σ
  else
    if 0 < (lg_cmp x0 255) then
      g_Mo_isForm_14 σ
    else
      g_Mo_isForm_19 x0 σ
set_option maxHeartbeats 4000000 in
theorem t_Mo_isForm_0 {x0 : Int64} {σ σ' : am_S} {r : Int32} (h : g_Mo_isForm x0 σ = some (r, σ')) : am_A S_m M_Mo_isForm (0, [some (.long x0), none], [], σ) (am_r S_m (fun q τ => q = some (.int r) ∧ τ = σ')) := by
  unfold g_Mo_isForm at h
  refine a_lload_n i_Mo_isForm_0 rfl ?_
  refine a_lconst i_Mo_isForm_1 ?_
  refine a_lcmp i_Mo_isForm_2 ?_
  by_cases c4 : (lg_cmp x0 0) < 0
  · rw [if_pos c4] at h
    refine a_ift i_Mo_isForm_3 c4 ?_
    exact am_wk (t_Mo_isForm_14 h) ⟨Or.inl rfl, Or.inl rfl, trivial⟩
  · rw [if_neg c4] at h
    refine a_iff i_Mo_isForm_3 c4 ?_
    refine a_lload_n i_Mo_isForm_6 rfl ?_
    refine a_ldc2 i_Mo_isForm_7 ?_
    refine a_lcmp i_Mo_isForm_10 ?_
    by_cases c8 : 0 < (lg_cmp x0 255)
    · rw [if_pos c8] at h
      refine a_iff i_Mo_isForm_11 (Int32.not_le.mpr c8) ?_
      exact am_wk (t_Mo_isForm_14 h) ⟨Or.inl rfl, Or.inl rfl, trivial⟩
    · rw [if_neg c8] at h
      refine a_ift i_Mo_isForm_11 (Int32.not_lt.mp c8) ?_
      refine a_lload_n i_Mo_isForm_18 rfl ?_
      exact am_wk (t_Mo_isForm_19 h) ⟨Or.inl rfl, Or.inl rfl, trivial⟩
theorem t_Mo_isForm {x0 : Int64} {σ σ' : am_S} {r : Int32} (h : g_Mo_isForm x0 σ = some (r, σ')) : am_Mt S_m M_Mo_isForm [.long x0] σ (fun q τ => q = some (.int r) ∧ τ = σ') :=
  am_M_of ok_Mo_isForm (Nat.le_of_ble_eq_true rfl) (t_Mo_isForm_0 h)
def g_Mo_readAttributes_75 (σ : am_S) : Option (Int32 × am_S) :=
  some (0, σ)
set_option maxHeartbeats 4000000 in
theorem t_Mo_readAttributes_75 {σ σ' : am_S} {r : Int32} (h : g_Mo_readAttributes_75 σ = some (r, σ')) : am_A S_m M_Mo_readAttributes (75, [none, none, none, none, none, none, none, none], [], σ) (am_r S_m (fun q τ => q = some (.int r) ∧ τ = σ')) := by
  unfold g_Mo_readAttributes_75 at h
  refine a_iconst i_Mo_readAttributes_75 ?_
  exact am_ret_z ok_Mo_readAttributes rfl rfl (Or.inl rfl) (am_lf_i h)
def g_Mo_readAttributes_147 (go : Int32 → Int32 → am_S → Option (Int32 × am_S)) (x1 : Int32) (x2 : Int32) (σ : am_S) : Option (Int32 × am_S) :=
  go x1 x2 σ
set_option maxHeartbeats 4000000 in
theorem t_Mo_readAttributes_147 {x1 : Int32} {x2 : Int32} {σ σ' : am_S} {r : Int32} {go : Int32 → Int32 → am_S → Option (Int32 × am_S)} (hgo : ∀ {x1 : Int32} {x2 : Int32} {σ σ' : am_S} {r : Int32}, go x1 x2 σ = some (r, σ') → am_A S_m M_Mo_readAttributes (9, [some (.ref 0), some (.int x1), some (.int x2), none, none, none, none, none], [], σ) (am_r S_m (fun q τ => q = some (.int r) ∧ τ = σ'))) (h : g_Mo_readAttributes_147 go x1 x2 σ = some (r, σ')) : am_A S_m M_Mo_readAttributes (147, [some (.ref 0), some (.int x1), some (.int x2), none, none, none, none, none], [], σ) (am_r S_m (fun q τ => q = some (.int r) ∧ τ = σ')) := by
  unfold g_Mo_readAttributes_147 at h
  refine a_goto i_Mo_readAttributes_147 ?_
  exact hgo h
def g_Mo_readAttributes_136 (go : Int32 → Int32 → am_S → Option (Int32 × am_S)) (x1 : Int32) (x2 : Int32) (y0 : Int64) (y1 : Int32) (σ : am_S) : Option (Int32 × am_S) :=
  am_gd (inb y1 480) <|
  am_gd (inb x1 40) <|
  am_gd (inb x1 40) <|
  g_Mo_readAttributes_147 go x1 x2 (am_ai (am_al σ 9 y1.toNatClampNeg y0) 11 x1.toNatClampNeg (((am_al σ 9 y1.toNatClampNeg y0).2.1 11 x1.toNatClampNeg) + 1))
set_option maxHeartbeats 4000000 in
theorem t_Mo_readAttributes_136 {x1 : Int32} {x2 : Int32} {y0 : Int64} {y1 : Int32} {σ σ' : am_S} {r : Int32} {go : Int32 → Int32 → am_S → Option (Int32 × am_S)} (hgo : ∀ {x1 : Int32} {x2 : Int32} {σ σ' : am_S} {r : Int32}, go x1 x2 σ = some (r, σ') → am_A S_m M_Mo_readAttributes (9, [some (.ref 0), some (.int x1), some (.int x2), none, none, none, none, none], [], σ) (am_r S_m (fun q τ => q = some (.int r) ∧ τ = σ'))) (h : g_Mo_readAttributes_136 go x1 x2 y0 y1 σ = some (r, σ')) : am_A S_m M_Mo_readAttributes (136, [some (.ref 0), some (.int x1), some (.int x2), none, none, none, none, none], [.long y0, .int y1, .ref 9], σ) (am_r S_m (fun q τ => q = some (.int r) ∧ τ = σ')) := by
  unfold g_Mo_readAttributes_136 at h
  obtain ⟨c1, h⟩ := gd_some h
  refine a_las (n := 480) i_Mo_readAttributes_136 rfl rfl (inb_in c1) ?_
  refine a_aload_n i_Mo_readAttributes_137 rfl ?_
  refine a_get (v := .ref 11) i_Mo_readAttributes_138 rfl rfl ?_
  refine a_iload_n i_Mo_readAttributes_141 rfl ?_
  refine a_dup2_ia i_Mo_readAttributes_142 ?_
  obtain ⟨c6, h⟩ := gd_some h
  refine a_ial (n := 40) i_Mo_readAttributes_143 (by decide) rfl rfl (inb_in c6) ?_
  refine a_iconst i_Mo_readAttributes_144 ?_
  refine a_iadd i_Mo_readAttributes_145 ?_
  obtain ⟨c9, h⟩ := gd_some h
  refine a_ias (n := 40) i_Mo_readAttributes_146 rfl rfl (inb_in c9) ?_
  exact t_Mo_readAttributes_147 hgo h
def g_Mo_readAttributes_77 (go : Int32 → Int32 → am_S → Option (Int32 × am_S)) (x1 : Int32) (x2 : Int32) (x3 : Int64) (x5 : Int64) (σ : am_S) : Option (Int32 × am_S) :=
  if x2 = 0 then
    g_Mo_readAttributes_147 go x1 x2 σ
  else
    am_gd (inb x1 40) <|
    am_gd (inb ((12 * x1) + (σ.2.1 11 x1.toNatClampNeg)) 480) <|
    am_gd (inb ((12 * x1) + (σ.2.1 11 x1.toNatClampNeg)) 480) <|
    if (lg_cmp x5 33) = 0 then
      am_bd (g_Mo_leb (1) (am_ai (am_al σ 8 ((12 * x1) + (σ.2.1 11 x1.toNatClampNeg)).toNatClampNeg x3) 12 ((12 * x1) + (σ.2.1 11 x1.toNatClampNeg)).toNatClampNeg x5.toInt32)) fun v32 σ32 =>
      g_Mo_readAttributes_136 go x1 x2 v32 ((12 * x1) + (σ.2.1 11 x1.toNatClampNeg)) σ32
    else
      g_Mo_readAttributes_136 go x1 x2 (0) ((12 * x1) + (σ.2.1 11 x1.toNatClampNeg)) (am_ai (am_al σ 8 ((12 * x1) + (σ.2.1 11 x1.toNatClampNeg)).toNatClampNeg x3) 12 ((12 * x1) + (σ.2.1 11 x1.toNatClampNeg)).toNatClampNeg x5.toInt32)
set_option maxHeartbeats 4000000 in
theorem t_Mo_readAttributes_77 {x1 : Int32} {x2 : Int32} {x3 : Int64} {x5 : Int64} {σ σ' : am_S} {r : Int32} {go : Int32 → Int32 → am_S → Option (Int32 × am_S)} (hgo : ∀ {x1 : Int32} {x2 : Int32} {σ σ' : am_S} {r : Int32}, go x1 x2 σ = some (r, σ') → am_A S_m M_Mo_readAttributes (9, [some (.ref 0), some (.int x1), some (.int x2), none, none, none, none, none], [], σ) (am_r S_m (fun q τ => q = some (.int r) ∧ τ = σ'))) (h : g_Mo_readAttributes_77 go x1 x2 x3 x5 σ = some (r, σ')) : am_A S_m M_Mo_readAttributes (77, [some (.ref 0), some (.int x1), some (.int x2), some (.long x3), none, some (.long x5), none, none], [], σ) (am_r S_m (fun q τ => q = some (.int r) ∧ τ = σ')) := by
  unfold g_Mo_readAttributes_77 at h
  refine a_iload_n i_Mo_readAttributes_77 rfl ?_
  by_cases c2 : x2 = 0
  · rw [if_pos c2] at h
    refine a_ift i_Mo_readAttributes_78 c2 ?_
    exact am_wk (t_Mo_readAttributes_147 hgo h) ⟨Or.inr rfl, Or.inr rfl, Or.inr rfl, Or.inl rfl, Or.inl rfl, Or.inl rfl, Or.inl rfl, Or.inl rfl, trivial⟩
  · rw [if_neg c2] at h
    refine a_iff i_Mo_readAttributes_78 c2 ?_
    refine a_bipush i_Mo_readAttributes_81 ?_
    refine a_iload_n i_Mo_readAttributes_83 rfl ?_
    refine a_imul i_Mo_readAttributes_84 ?_
    refine a_aload_n i_Mo_readAttributes_85 rfl ?_
    refine a_get (v := .ref 11) i_Mo_readAttributes_86 rfl rfl ?_
    refine a_iload_n i_Mo_readAttributes_89 rfl ?_
    obtain ⟨c9, h⟩ := gd_some h
    refine a_ial (n := 40) i_Mo_readAttributes_90 (by decide) rfl rfl (inb_in c9) ?_
    refine a_iadd i_Mo_readAttributes_91 ?_
    refine a_istore i_Mo_readAttributes_92 rfl ?_
    refine a_aload_n i_Mo_readAttributes_94 rfl ?_
    refine a_get (v := .ref 8) i_Mo_readAttributes_95 rfl rfl ?_
    refine a_iload i_Mo_readAttributes_98 rfl ?_
    refine a_lload_n i_Mo_readAttributes_100 rfl ?_
    obtain ⟨c16, h⟩ := gd_some h
    refine a_las (n := 480) i_Mo_readAttributes_101 rfl rfl (inb_in c16) ?_
    refine a_aload_n i_Mo_readAttributes_102 rfl ?_
    refine a_get (v := .ref 12) i_Mo_readAttributes_103 rfl rfl ?_
    refine a_iload i_Mo_readAttributes_106 rfl ?_
    refine a_lload i_Mo_readAttributes_108 rfl ?_
    refine a_l2i i_Mo_readAttributes_110 ?_
    obtain ⟨c22, h⟩ := gd_some h
    refine a_ias (n := 480) i_Mo_readAttributes_111 rfl rfl (inb_in c22) ?_
    refine a_aload_n i_Mo_readAttributes_112 rfl ?_
    refine a_get (v := .ref 9) i_Mo_readAttributes_113 rfl rfl ?_
    refine a_iload i_Mo_readAttributes_116 rfl ?_
    refine a_lload i_Mo_readAttributes_118 rfl ?_
    refine a_ldc2 i_Mo_readAttributes_120 ?_
    refine a_lcmp i_Mo_readAttributes_123 ?_
    by_cases c29 : (lg_cmp x5 33) = 0
    · rw [if_pos c29] at h
      refine a_iff i_Mo_readAttributes_124 c29 ?_
      refine a_aload_n i_Mo_readAttributes_127 rfl ?_
      refine a_iconst i_Mo_readAttributes_128 ?_
      obtain ⟨v32, σ32, e32, h⟩ := am_bd_some h
      refine am_cvd (rest := [.int ((12 * x1) + (σ.2.1 11 x1.toNatClampNeg)), .ref 9]) [.int 1] c_Mo_readAttributes_129 ⟨by decide, _, rfl⟩ rfl (Nat.le_of_ble_eq_true rfl) (t_Mo_leb e32) ?_
      refine a_goto i_Mo_readAttributes_132 ?_
      exact am_wk (t_Mo_readAttributes_136 hgo h) ⟨Or.inr rfl, Or.inr rfl, Or.inr rfl, Or.inl rfl, Or.inl rfl, Or.inl rfl, Or.inl rfl, Or.inl rfl, trivial⟩
    · rw [if_neg c29] at h
      refine a_ift i_Mo_readAttributes_124 c29 ?_
      refine a_lconst i_Mo_readAttributes_135 ?_
      exact am_wk (t_Mo_readAttributes_136 hgo h) ⟨Or.inr rfl, Or.inr rfl, Or.inr rfl, Or.inl rfl, Or.inl rfl, Or.inl rfl, Or.inl rfl, Or.inl rfl, trivial⟩
def g_Mo_readAttributes_51 (go : Int32 → Int32 → am_S → Option (Int32 × am_S)) (x1 : Int32) (x3 : Int64) (x5 : Int64) (y0 : Int32) (σ : am_S) : Option (Int32 × am_S) :=
  if y0 = 0 then
    g_Mo_readAttributes_77 go x1 y0 x3 x5 σ
  else
    am_gd (inb x1 40) <|
    if (σ.2.1 11 x1.toNatClampNeg) = 12 then
      g_Mo_readAttributes_75 σ
    else
      am_bd (g_Mo_isForm x5 σ) fun v11 σ11 =>
      if v11 = 0 then
        g_Mo_readAttributes_75 σ11
      else
        g_Mo_readAttributes_77 go x1 y0 x3 x5 σ11
set_option maxHeartbeats 4000000 in
theorem t_Mo_readAttributes_51 {x1 : Int32} {x3 : Int64} {x5 : Int64} {y0 : Int32} {σ σ' : am_S} {r : Int32} {go : Int32 → Int32 → am_S → Option (Int32 × am_S)} (hgo : ∀ {x1 : Int32} {x2 : Int32} {σ σ' : am_S} {r : Int32}, go x1 x2 σ = some (r, σ') → am_A S_m M_Mo_readAttributes (9, [some (.ref 0), some (.int x1), some (.int x2), none, none, none, none, none], [], σ) (am_r S_m (fun q τ => q = some (.int r) ∧ τ = σ'))) (h : g_Mo_readAttributes_51 go x1 x3 x5 y0 σ = some (r, σ')) : am_A S_m M_Mo_readAttributes (51, [some (.ref 0), some (.int x1), none, some (.long x3), none, some (.long x5), none, none], [.int y0], σ) (am_r S_m (fun q τ => q = some (.int r) ∧ τ = σ')) := by
  unfold g_Mo_readAttributes_51 at h
  refine a_istore_n i_Mo_readAttributes_51 rfl ?_
  refine a_iload_n i_Mo_readAttributes_52 rfl ?_
  by_cases c3 : y0 = 0
  · rw [if_pos c3] at h
    refine a_ift i_Mo_readAttributes_53 c3 ?_
    exact t_Mo_readAttributes_77 hgo h
  · rw [if_neg c3] at h
    refine a_iff i_Mo_readAttributes_53 c3 ?_
    refine a_aload_n i_Mo_readAttributes_56 rfl ?_
    refine a_get (v := .ref 11) i_Mo_readAttributes_57 rfl rfl ?_
    refine a_iload_n i_Mo_readAttributes_60 rfl ?_
    obtain ⟨c7, h⟩ := gd_some h
    refine a_ial (n := 40) i_Mo_readAttributes_61 (by decide) rfl rfl (inb_in c7) ?_
    refine a_bipush i_Mo_readAttributes_62 ?_
    by_cases c9 : (σ.2.1 11 x1.toNatClampNeg) = 12
    · rw [if_pos c9] at h
      refine a_ict i_Mo_readAttributes_64 c9 ?_
      exact am_wk (t_Mo_readAttributes_75 h) ⟨Or.inl rfl, Or.inl rfl, Or.inl rfl, Or.inl rfl, Or.inl rfl, Or.inl rfl, Or.inl rfl, Or.inl rfl, trivial⟩
    · rw [if_neg c9] at h
      refine a_icf i_Mo_readAttributes_64 c9 ?_
      refine a_lload i_Mo_readAttributes_67 rfl ?_
      obtain ⟨v11, σ11, e11, h⟩ := am_bd_some h
      refine am_csd (rest := []) [.long x5] c_Mo_readAttributes_69 rfl (Nat.le_of_ble_eq_true rfl) (t_Mo_isForm e11) ?_
      by_cases c12 : v11 = 0
      · rw [if_pos c12] at h
        refine a_iff i_Mo_readAttributes_72 c12 ?_
        exact am_wk (t_Mo_readAttributes_75 h) ⟨Or.inl rfl, Or.inl rfl, Or.inl rfl, Or.inl rfl, Or.inl rfl, Or.inl rfl, Or.inl rfl, Or.inl rfl, trivial⟩
      · rw [if_neg c12] at h
        refine a_ift i_Mo_readAttributes_72 c12 ?_
        exact t_Mo_readAttributes_77 hgo h
def g_Mo_readAttributes_46 (go : Int32 → Int32 → am_S → Option (Int32 × am_S)) (x1 : Int32) (x3 : Int64) (x5 : Int64) (σ : am_S) : Option (Int32 × am_S) :=
  g_Mo_readAttributes_51 go x1 x3 x5 (1) σ
set_option maxHeartbeats 4000000 in
theorem t_Mo_readAttributes_46 {x1 : Int32} {x3 : Int64} {x5 : Int64} {σ σ' : am_S} {r : Int32} {go : Int32 → Int32 → am_S → Option (Int32 × am_S)} (hgo : ∀ {x1 : Int32} {x2 : Int32} {σ σ' : am_S} {r : Int32}, go x1 x2 σ = some (r, σ') → am_A S_m M_Mo_readAttributes (9, [some (.ref 0), some (.int x1), some (.int x2), none, none, none, none, none], [], σ) (am_r S_m (fun q τ => q = some (.int r) ∧ τ = σ'))) (h : g_Mo_readAttributes_46 go x1 x3 x5 σ = some (r, σ')) : am_A S_m M_Mo_readAttributes (46, [some (.ref 0), some (.int x1), none, some (.long x3), none, some (.long x5), none, none], [], σ) (am_r S_m (fun q τ => q = some (.int r) ∧ τ = σ')) := by
  unfold g_Mo_readAttributes_46 at h
  refine a_iconst i_Mo_readAttributes_46 ?_
  refine a_goto i_Mo_readAttributes_47 ?_
  exact t_Mo_readAttributes_51 hgo h
def g_Mo_readAttributes_50 (go : Int32 → Int32 → am_S → Option (Int32 × am_S)) (x1 : Int32) (x3 : Int64) (x5 : Int64) (σ : am_S) : Option (Int32 × am_S) :=
  g_Mo_readAttributes_51 go x1 x3 x5 (0) σ
set_option maxHeartbeats 4000000 in
theorem t_Mo_readAttributes_50 {x1 : Int32} {x3 : Int64} {x5 : Int64} {σ σ' : am_S} {r : Int32} {go : Int32 → Int32 → am_S → Option (Int32 × am_S)} (hgo : ∀ {x1 : Int32} {x2 : Int32} {σ σ' : am_S} {r : Int32}, go x1 x2 σ = some (r, σ') → am_A S_m M_Mo_readAttributes (9, [some (.ref 0), some (.int x1), some (.int x2), none, none, none, none, none], [], σ) (am_r S_m (fun q τ => q = some (.int r) ∧ τ = σ'))) (h : g_Mo_readAttributes_50 go x1 x3 x5 σ = some (r, σ')) : am_A S_m M_Mo_readAttributes (50, [some (.ref 0), some (.int x1), none, some (.long x3), none, some (.long x5), none, none], [], σ) (am_r S_m (fun q τ => q = some (.int r) ∧ τ = σ')) := by
  unfold g_Mo_readAttributes_50 at h
  refine a_iconst i_Mo_readAttributes_50 ?_
  exact t_Mo_readAttributes_51 hgo h
def g_Mo_readAttributes_162 (y0 : Int32) (σ : am_S) : Option (Int32 × am_S) :=
  am_gd (z01 y0) <|
  some (y0, σ)
set_option maxHeartbeats 4000000 in
theorem t_Mo_readAttributes_162 {y0 : Int32} {σ σ' : am_S} {r : Int32} (h : g_Mo_readAttributes_162 y0 σ = some (r, σ')) : am_A S_m M_Mo_readAttributes (162, [none, none, none, none, none, none, none, none], [.int y0], σ) (am_r S_m (fun q τ => q = some (.int r) ∧ τ = σ')) := by
  unfold g_Mo_readAttributes_162 at h
  obtain ⟨c1, h⟩ := gd_some h
  exact am_ret_z ok_Mo_readAttributes rfl rfl (z01_or c1) (am_lf_i h)
def g_Mo_readAttributes_9 : Nat → Int32 → Int32 → am_S → Option (Int32 × am_S)
  | 0, _, _, _ => none
  | n + 1, x1, x2, σ =>
  if x2 = 0 then
    if (σ.1.1 0 8) = 0 then
      g_Mo_readAttributes_162 (1) σ
    else
      g_Mo_readAttributes_162 (0) σ
  else
    am_bd (g_Mo_leb (0) σ) fun v5 σ5 =>
    am_bd (g_Mo_leb (0) σ5) fun v9 σ9 =>
    if (σ9.1.1 0 8) = 0 then
      if (lg_cmp v5 0) = 0 then
        if (lg_cmp v9 0) = 0 then
          g_Mo_readAttributes_50 (g_Mo_readAttributes_9 n) x1 v5 v9 σ9
        else
          g_Mo_readAttributes_46 (g_Mo_readAttributes_9 n) x1 v5 v9 σ9
      else
        g_Mo_readAttributes_46 (g_Mo_readAttributes_9 n) x1 v5 v9 σ9
    else
      g_Mo_readAttributes_50 (g_Mo_readAttributes_9 n) x1 v5 v9 σ9
set_option maxHeartbeats 4000000 in
theorem t_Mo_readAttributes_9 : ∀ (n : Nat) {x1 : Int32} {x2 : Int32} {σ σ' : am_S} {r : Int32} (h : g_Mo_readAttributes_9 n x1 x2 σ = some (r, σ')), am_A S_m M_Mo_readAttributes (9, [some (.ref 0), some (.int x1), some (.int x2), none, none, none, none, none], [], σ) (am_r S_m (fun q τ => q = some (.int r) ∧ τ = σ')) := by
  intro n
  induction n with
  | zero =>
    intro x1 x2 σ σ' r h
    cases h
  | succ n ih =>
  intro x1 x2 σ σ' r h
  unfold g_Mo_readAttributes_9 at h
  refine a_iload_n i_Mo_readAttributes_9 rfl ?_
  by_cases c2 : x2 = 0
  · rw [if_pos c2] at h
    refine a_ift i_Mo_readAttributes_10 c2 ?_
    refine a_aload_n i_Mo_readAttributes_150 rfl ?_
    refine a_get (v := .int (σ.1.1 0 8)) i_Mo_readAttributes_151 rfl rfl ?_
    by_cases c5 : (σ.1.1 0 8) = 0
    · rw [if_pos c5] at h
      refine a_iff i_Mo_readAttributes_154 c5 ?_
      refine a_iconst i_Mo_readAttributes_157 ?_
      refine a_goto i_Mo_readAttributes_158 ?_
      exact am_wk (t_Mo_readAttributes_162 h) ⟨Or.inl rfl, Or.inl rfl, Or.inl rfl, Or.inl rfl, Or.inl rfl, Or.inl rfl, Or.inl rfl, Or.inl rfl, trivial⟩
    · rw [if_neg c5] at h
      refine a_ift i_Mo_readAttributes_154 c5 ?_
      refine a_iconst i_Mo_readAttributes_161 ?_
      exact am_wk (t_Mo_readAttributes_162 h) ⟨Or.inl rfl, Or.inl rfl, Or.inl rfl, Or.inl rfl, Or.inl rfl, Or.inl rfl, Or.inl rfl, Or.inl rfl, trivial⟩
  · rw [if_neg c2] at h
    refine a_iff i_Mo_readAttributes_10 c2 ?_
    refine a_aload_n i_Mo_readAttributes_13 rfl ?_
    refine a_iconst i_Mo_readAttributes_14 ?_
    obtain ⟨v5, σ5, e5, h⟩ := am_bd_some h
    refine am_cvd (rest := []) [.int 0] c_Mo_readAttributes_15 ⟨by decide, _, rfl⟩ rfl (Nat.le_of_ble_eq_true rfl) (t_Mo_leb e5) ?_
    refine a_lstore_n i_Mo_readAttributes_18 rfl ?_
    refine a_aload_n i_Mo_readAttributes_19 rfl ?_
    refine a_iconst i_Mo_readAttributes_20 ?_
    obtain ⟨v9, σ9, e9, h⟩ := am_bd_some h
    refine am_cvd (rest := []) [.int 0] c_Mo_readAttributes_21 ⟨by decide, _, rfl⟩ rfl (Nat.le_of_ble_eq_true rfl) (t_Mo_leb e9) ?_
    refine a_lstore i_Mo_readAttributes_24 rfl ?_
    refine a_aload_n i_Mo_readAttributes_26 rfl ?_
    refine a_get (v := .int (σ9.1.1 0 8)) i_Mo_readAttributes_27 rfl rfl ?_
    by_cases c13 : (σ9.1.1 0 8) = 0
    · rw [if_pos c13] at h
      refine a_iff i_Mo_readAttributes_30 c13 ?_
      refine a_lload_n i_Mo_readAttributes_33 rfl ?_
      refine a_lconst i_Mo_readAttributes_34 ?_
      refine a_lcmp i_Mo_readAttributes_35 ?_
      by_cases c17 : (lg_cmp v5 0) = 0
      · rw [if_pos c17] at h
        refine a_iff i_Mo_readAttributes_36 c17 ?_
        refine a_lload i_Mo_readAttributes_39 rfl ?_
        refine a_lconst i_Mo_readAttributes_41 ?_
        refine a_lcmp i_Mo_readAttributes_42 ?_
        by_cases c21 : (lg_cmp v9 0) = 0
        · rw [if_pos c21] at h
          refine a_ift i_Mo_readAttributes_43 c21 ?_
          exact am_wk (t_Mo_readAttributes_50 (fun h => ih h) h) ⟨Or.inr rfl, Or.inr rfl, Or.inl rfl, Or.inr rfl, Or.inl rfl, Or.inr rfl, Or.inl rfl, Or.inl rfl, trivial⟩
        · rw [if_neg c21] at h
          refine a_iff i_Mo_readAttributes_43 c21 ?_
          exact am_wk (t_Mo_readAttributes_46 (fun h => ih h) h) ⟨Or.inr rfl, Or.inr rfl, Or.inl rfl, Or.inr rfl, Or.inl rfl, Or.inr rfl, Or.inl rfl, Or.inl rfl, trivial⟩
      · rw [if_neg c17] at h
        refine a_ift i_Mo_readAttributes_36 c17 ?_
        exact am_wk (t_Mo_readAttributes_46 (fun h => ih h) h) ⟨Or.inr rfl, Or.inr rfl, Or.inl rfl, Or.inr rfl, Or.inl rfl, Or.inr rfl, Or.inl rfl, Or.inl rfl, trivial⟩
    · rw [if_neg c13] at h
      refine a_ift i_Mo_readAttributes_30 c13 ?_
      exact am_wk (t_Mo_readAttributes_50 (fun h => ih h) h) ⟨Or.inr rfl, Or.inr rfl, Or.inl rfl, Or.inr rfl, Or.inl rfl, Or.inr rfl, Or.inl rfl, Or.inl rfl, trivial⟩
def g_Mo_readAttributes (x1 : Int32) (σ : am_S) : Option (Int32 × am_S) :=
  am_gd (inb x1 40) <|
  g_Mo_readAttributes_9 4000 x1 (1) (am_ai σ 11 x1.toNatClampNeg 0)
set_option maxHeartbeats 4000000 in
theorem t_Mo_readAttributes_0 {x1 : Int32} {σ σ' : am_S} {r : Int32} (h : g_Mo_readAttributes x1 σ = some (r, σ')) : am_A S_m M_Mo_readAttributes (0, [some (.ref 0), some (.int x1), none, none, none, none, none, none], [], σ) (am_r S_m (fun q τ => q = some (.int r) ∧ τ = σ')) := by
  unfold g_Mo_readAttributes at h
  refine a_aload_n i_Mo_readAttributes_0 rfl ?_
  refine a_get (v := .ref 11) i_Mo_readAttributes_1 rfl rfl ?_
  refine a_iload_n i_Mo_readAttributes_4 rfl ?_
  refine a_iconst i_Mo_readAttributes_5 ?_
  obtain ⟨c5, h⟩ := gd_some h
  refine a_ias (n := 40) i_Mo_readAttributes_6 rfl rfl (inb_in c5) ?_
  refine a_iconst i_Mo_readAttributes_7 ?_
  refine a_istore_n i_Mo_readAttributes_8 rfl ?_
  exact t_Mo_readAttributes_9 4000 h
theorem t_Mo_readAttributes {x1 : Int32} {σ σ' : am_S} {r : Int32} (h : g_Mo_readAttributes x1 σ = some (r, σ')) : am_Mt S_m M_Mo_readAttributes [.ref 0, .int x1] σ (fun q τ => q = some (.int r) ∧ τ = σ') :=
  am_M_of ok_Mo_readAttributes (Nat.le_of_ble_eq_true rfl) (t_Mo_readAttributes_0 h)
def g_Mo_abbreviation_2 : Nat → Int64 → Int32 → am_S → Option (Int32 × am_S)
  | 0, _, _, _ => none
  | n + 1, x1, x3, σ =>
  if x3 < (σ.1.1 0 13) then
    am_gd (inb x3 40) <|
    if (lg_cmp (σ.2.2 6 x3.toNatClampNeg) x1) = 0 then
      some (x3, σ)
    else
      g_Mo_abbreviation_2 n x1 (x3 + 1) σ
  else
    some ((-1), σ)
set_option maxHeartbeats 4000000 in
theorem t_Mo_abbreviation_2 : ∀ (n : Nat) {x1 : Int64} {x3 : Int32} {σ σ' : am_S} {r : Int32} (h : g_Mo_abbreviation_2 n x1 x3 σ = some (r, σ')), am_A S_m M_Mo_abbreviation (2, [some (.ref 0), some (.long x1), none, some (.int x3)], [], σ) (am_r S_m (fun q τ => q = some (.int r) ∧ τ = σ')) := by
  intro n
  induction n with
  | zero =>
    intro x1 x3 σ σ' r h
    cases h
  | succ n ih =>
  intro x1 x3 σ σ' r h
  unfold g_Mo_abbreviation_2 at h
  refine a_iload_n i_Mo_abbreviation_2 rfl ?_
  refine a_aload_n i_Mo_abbreviation_3 rfl ?_
  refine a_get (v := .int (σ.1.1 0 13)) i_Mo_abbreviation_4 rfl rfl ?_
  by_cases c4 : x3 < (σ.1.1 0 13)
  · rw [if_pos c4] at h
    refine a_icf i_Mo_abbreviation_7 (Int32.not_le.mpr c4) ?_
    refine a_aload_n i_Mo_abbreviation_10 rfl ?_
    refine a_get (v := .ref 6) i_Mo_abbreviation_11 rfl rfl ?_
    refine a_iload_n i_Mo_abbreviation_14 rfl ?_
    obtain ⟨c8, h⟩ := gd_some h
    refine a_lal (n := 40) i_Mo_abbreviation_15 rfl rfl (inb_in c8) ?_
    refine a_lload_n i_Mo_abbreviation_16 rfl ?_
    refine a_lcmp i_Mo_abbreviation_17 ?_
    by_cases c11 : (lg_cmp (σ.2.2 6 x3.toNatClampNeg) x1) = 0
    · rw [if_pos c11] at h
      refine a_iff i_Mo_abbreviation_18 c11 ?_
      refine a_iload_n i_Mo_abbreviation_21 rfl ?_
      exact am_ret_i ok_Mo_abbreviation rfl rfl (am_lf_i h)
    · rw [if_neg c11] at h
      refine a_ift i_Mo_abbreviation_18 c11 ?_
      refine a_iinc i_Mo_abbreviation_23 rfl rfl ?_
      refine a_goto i_Mo_abbreviation_26 ?_
      exact ih h
  · rw [if_neg c4] at h
    refine a_ict i_Mo_abbreviation_7 (Int32.not_lt.mp c4) ?_
    refine a_iconst i_Mo_abbreviation_29 ?_
    exact am_ret_i ok_Mo_abbreviation rfl rfl (am_lf_i h)
def g_Mo_abbreviation (x1 : Int64) (σ : am_S) : Option (Int32 × am_S) :=
  g_Mo_abbreviation_2 4000 x1 (0) σ
set_option maxHeartbeats 4000000 in
theorem t_Mo_abbreviation_0 {x1 : Int64} {σ σ' : am_S} {r : Int32} (h : g_Mo_abbreviation x1 σ = some (r, σ')) : am_A S_m M_Mo_abbreviation (0, [some (.ref 0), some (.long x1), none, none], [], σ) (am_r S_m (fun q τ => q = some (.int r) ∧ τ = σ')) := by
  unfold g_Mo_abbreviation at h
  refine a_iconst i_Mo_abbreviation_0 ?_
  refine a_istore_n i_Mo_abbreviation_1 rfl ?_
  exact t_Mo_abbreviation_2 4000 h
theorem t_Mo_abbreviation {x1 : Int64} {σ σ' : am_S} {r : Int32} (h : g_Mo_abbreviation x1 σ = some (r, σ')) : am_Mt S_m M_Mo_abbreviation [.ref 0, .long x1] σ (fun q τ => q = some (.int r) ∧ τ = σ') :=
  am_M_of ok_Mo_abbreviation (Nat.le_of_ble_eq_true rfl) (t_Mo_abbreviation_0 h)
def g_Mo_readAbbreviations_186 (go : Int32 → Int32 → am_S → Option (Int32 × am_S)) (x3 : Int32) (x4 : Int32) (σ : am_S) : Option (Int32 × am_S) :=
  go x3 x4 σ
set_option maxHeartbeats 4000000 in
theorem t_Mo_readAbbreviations_186 {x3 : Int32} {x4 : Int32} {σ σ' : am_S} {r : Int32} {go : Int32 → Int32 → am_S → Option (Int32 × am_S)} (hgo : ∀ {x3 : Int32} {x4 : Int32} {σ σ' : am_S} {r : Int32}, go x3 x4 σ = some (r, σ') → am_A S_m M_Mo_readAbbreviations (16, [some (.ref 0), none, none, some (.int x3), some (.int x4), none, none, none, none, none], [], σ) (am_r S_m (fun q τ => q = some (.int r) ∧ τ = σ'))) (h : g_Mo_readAbbreviations_186 go x3 x4 σ = some (r, σ')) : am_A S_m M_Mo_readAbbreviations (186, [some (.ref 0), none, none, some (.int x3), some (.int x4), none, none, none, none, none], [], σ) (am_r S_m (fun q τ => q = some (.int r) ∧ τ = σ')) := by
  unfold g_Mo_readAbbreviations_186 at h
  refine a_goto i_Mo_readAbbreviations_186 ?_
  exact hgo h
def g_Mo_readAbbreviations_175 (go : Int32 → Int32 → am_S → Option (Int32 × am_S)) (x4 : Int32) (y0 : Int32) (σ : am_S) : Option (Int32 × am_S) :=
  g_Mo_readAbbreviations_186 go y0 x4 (am_fi σ 0 13 ((σ.1.1 0 13) + 1))
set_option maxHeartbeats 4000000 in
theorem t_Mo_readAbbreviations_175 {x4 : Int32} {y0 : Int32} {σ σ' : am_S} {r : Int32} {go : Int32 → Int32 → am_S → Option (Int32 × am_S)} (hgo : ∀ {x3 : Int32} {x4 : Int32} {σ σ' : am_S} {r : Int32}, go x3 x4 σ = some (r, σ') → am_A S_m M_Mo_readAbbreviations (16, [some (.ref 0), none, none, some (.int x3), some (.int x4), none, none, none, none, none], [], σ) (am_r S_m (fun q τ => q = some (.int r) ∧ τ = σ'))) (h : g_Mo_readAbbreviations_175 go x4 y0 σ = some (r, σ')) : am_A S_m M_Mo_readAbbreviations (175, [some (.ref 0), none, none, none, some (.int x4), none, none, none, none, none], [.int y0], σ) (am_r S_m (fun q τ => q = some (.int r) ∧ τ = σ')) := by
  unfold g_Mo_readAbbreviations_175 at h
  refine a_istore_n i_Mo_readAbbreviations_175 rfl ?_
  refine a_aload_n i_Mo_readAbbreviations_176 rfl ?_
  refine a_dup_a i_Mo_readAbbreviations_177 ?_
  refine a_get (v := .int (σ.1.1 0 13)) i_Mo_readAbbreviations_178 rfl rfl ?_
  refine a_iconst i_Mo_readAbbreviations_181 ?_
  refine a_iadd i_Mo_readAbbreviations_182 ?_
  refine a_puti i_Mo_readAbbreviations_183 rfl trivial ?_
  exact t_Mo_readAbbreviations_186 hgo h
def g_Mo_readAbbreviations_174 (go : Int32 → Int32 → am_S → Option (Int32 × am_S)) (x4 : Int32) (σ : am_S) : Option (Int32 × am_S) :=
  g_Mo_readAbbreviations_175 go x4 (0) σ
set_option maxHeartbeats 4000000 in
theorem t_Mo_readAbbreviations_174 {x4 : Int32} {σ σ' : am_S} {r : Int32} {go : Int32 → Int32 → am_S → Option (Int32 × am_S)} (hgo : ∀ {x3 : Int32} {x4 : Int32} {σ σ' : am_S} {r : Int32}, go x3 x4 σ = some (r, σ') → am_A S_m M_Mo_readAbbreviations (16, [some (.ref 0), none, none, some (.int x3), some (.int x4), none, none, none, none, none], [], σ) (am_r S_m (fun q τ => q = some (.int r) ∧ τ = σ'))) (h : g_Mo_readAbbreviations_174 go x4 σ = some (r, σ')) : am_A S_m M_Mo_readAbbreviations (174, [some (.ref 0), none, none, none, some (.int x4), none, none, none, none, none], [], σ) (am_r S_m (fun q τ => q = some (.int r) ∧ τ = σ')) := by
  unfold g_Mo_readAbbreviations_174 at h
  refine a_iconst i_Mo_readAbbreviations_174 ?_
  exact t_Mo_readAbbreviations_175 hgo h
def g_Mo_readAbbreviations_151 (go : Int32 → Int32 → am_S → Option (Int32 × am_S)) (x4 : Int32) (x7 : Int32) (x8 : Int64) (y0 : Int32) (y1 : Int32) (σ : am_S) : Option (Int32 × am_S) :=
  am_gd (inb y1 40) <|
  if (lg_cmp x8 2) < 0 then
    am_bd (g_Mo_readAttributes x7 (am_ai σ 10 y1.toNatClampNeg (vp_nar .boolean y0))) fun v8 σ8 =>
    if v8 = 0 then
      g_Mo_readAbbreviations_174 go x4 σ8
    else
      g_Mo_readAbbreviations_175 go x4 (1) σ8
  else
    g_Mo_readAbbreviations_174 go x4 (am_ai σ 10 y1.toNatClampNeg (vp_nar .boolean y0))
set_option maxHeartbeats 4000000 in
theorem t_Mo_readAbbreviations_151 {x4 : Int32} {x7 : Int32} {x8 : Int64} {y0 : Int32} {y1 : Int32} {σ σ' : am_S} {r : Int32} {go : Int32 → Int32 → am_S → Option (Int32 × am_S)} (hgo : ∀ {x3 : Int32} {x4 : Int32} {σ σ' : am_S} {r : Int32}, go x3 x4 σ = some (r, σ') → am_A S_m M_Mo_readAbbreviations (16, [some (.ref 0), none, none, some (.int x3), some (.int x4), none, none, none, none, none], [], σ) (am_r S_m (fun q τ => q = some (.int r) ∧ τ = σ'))) (h : g_Mo_readAbbreviations_151 go x4 x7 x8 y0 y1 σ = some (r, σ')) : am_A S_m M_Mo_readAbbreviations (151, [some (.ref 0), none, none, none, some (.int x4), none, none, some (.int x7), some (.long x8), none], [.int y0, .int y1, .ref 10], σ) (am_r S_m (fun q τ => q = some (.int r) ∧ τ = σ')) := by
  unfold g_Mo_readAbbreviations_151 at h
  obtain ⟨c1, h⟩ := gd_some h
  refine a_bas (n := 40) i_Mo_readAbbreviations_151 rfl rfl (inb_in c1) ?_
  refine a_lload i_Mo_readAbbreviations_152 rfl ?_
  refine a_ldc2 i_Mo_readAbbreviations_154 ?_
  refine a_lcmp i_Mo_readAbbreviations_157 ?_
  by_cases c5 : (lg_cmp x8 2) < 0
  · rw [if_pos c5] at h
    refine a_iff i_Mo_readAbbreviations_158 (Int32.not_le.mpr c5) ?_
    refine a_aload_n i_Mo_readAbbreviations_161 rfl ?_
    refine a_iload i_Mo_readAbbreviations_162 rfl ?_
    obtain ⟨v8, σ8, e8, h⟩ := am_bd_some h
    refine am_cvd (rest := []) [.int x7] c_Mo_readAbbreviations_164 ⟨by decide, _, rfl⟩ rfl (Nat.le_of_ble_eq_true rfl) (t_Mo_readAttributes e8) ?_
    by_cases c9 : v8 = 0
    · rw [if_pos c9] at h
      refine a_ift i_Mo_readAbbreviations_167 c9 ?_
      exact am_wk (t_Mo_readAbbreviations_174 hgo h) ⟨Or.inr rfl, Or.inl rfl, Or.inl rfl, Or.inl rfl, Or.inr rfl, Or.inl rfl, Or.inl rfl, Or.inl rfl, Or.inl rfl, Or.inl rfl, trivial⟩
    · rw [if_neg c9] at h
      refine a_iff i_Mo_readAbbreviations_167 c9 ?_
      refine a_iconst i_Mo_readAbbreviations_170 ?_
      refine a_goto i_Mo_readAbbreviations_171 ?_
      exact am_wk (t_Mo_readAbbreviations_175 hgo h) ⟨Or.inr rfl, Or.inl rfl, Or.inl rfl, Or.inl rfl, Or.inr rfl, Or.inl rfl, Or.inl rfl, Or.inl rfl, Or.inl rfl, Or.inl rfl, trivial⟩
  · rw [if_neg c5] at h
    refine a_ift i_Mo_readAbbreviations_158 (Int32.not_lt.mp c5) ?_
    exact am_wk (t_Mo_readAbbreviations_174 hgo h) ⟨Or.inr rfl, Or.inl rfl, Or.inl rfl, Or.inl rfl, Or.inr rfl, Or.inl rfl, Or.inl rfl, Or.inl rfl, Or.inl rfl, Or.inl rfl, trivial⟩
def g_Mo_readAbbreviations_89 (go : Int32 → Int32 → am_S → Option (Int32 × am_S)) (x4 : Int32) (x5 : Int64) (y0 : Int32) (σ : am_S) : Option (Int32 × am_S) :=
  if x4 = 0 then
    g_Mo_readAbbreviations_186 go y0 x4 σ
  else
    if y0 = 0 then
      g_Mo_readAbbreviations_186 go y0 x4 σ
    else
      am_gd (inb (σ.1.1 0 13) 40) <|
      am_bd (g_Mo_leb (0) (am_al σ 6 (σ.1.1 0 13).toNatClampNeg x5)) fun v19 σ19 =>
      am_gd (inb (σ.1.1 0 13) 40) <|
      am_bd (g_Mo_u (1) (am_al σ19 7 (σ.1.1 0 13).toNatClampNeg v19)) fun v23 σ23 =>
      if (lg_cmp v23 1) = 0 then
        g_Mo_readAbbreviations_151 go x4 (σ.1.1 0 13) v23 (1) (σ.1.1 0 13) σ23
      else
        g_Mo_readAbbreviations_151 go x4 (σ.1.1 0 13) v23 (0) (σ.1.1 0 13) σ23
set_option maxHeartbeats 4000000 in
theorem t_Mo_readAbbreviations_89 {x4 : Int32} {x5 : Int64} {y0 : Int32} {σ σ' : am_S} {r : Int32} {go : Int32 → Int32 → am_S → Option (Int32 × am_S)} (hgo : ∀ {x3 : Int32} {x4 : Int32} {σ σ' : am_S} {r : Int32}, go x3 x4 σ = some (r, σ') → am_A S_m M_Mo_readAbbreviations (16, [some (.ref 0), none, none, some (.int x3), some (.int x4), none, none, none, none, none], [], σ) (am_r S_m (fun q τ => q = some (.int r) ∧ τ = σ'))) (h : g_Mo_readAbbreviations_89 go x4 x5 y0 σ = some (r, σ')) : am_A S_m M_Mo_readAbbreviations (89, [some (.ref 0), none, none, none, some (.int x4), some (.long x5), none, none, none, none], [.int y0], σ) (am_r S_m (fun q τ => q = some (.int r) ∧ τ = σ')) := by
  unfold g_Mo_readAbbreviations_89 at h
  refine a_istore_n i_Mo_readAbbreviations_89 rfl ?_
  refine a_iload i_Mo_readAbbreviations_90 rfl ?_
  by_cases c3 : x4 = 0
  · rw [if_pos c3] at h
    refine a_ift i_Mo_readAbbreviations_92 c3 ?_
    exact am_wk (t_Mo_readAbbreviations_186 hgo h) ⟨Or.inr rfl, Or.inl rfl, Or.inl rfl, Or.inr rfl, Or.inr rfl, Or.inl rfl, Or.inl rfl, Or.inl rfl, Or.inl rfl, Or.inl rfl, trivial⟩
  · rw [if_neg c3] at h
    refine a_iff i_Mo_readAbbreviations_92 c3 ?_
    refine a_iload_n i_Mo_readAbbreviations_95 rfl ?_
    by_cases c5 : y0 = 0
    · rw [if_pos c5] at h
      refine a_ift i_Mo_readAbbreviations_96 c5 ?_
      exact am_wk (t_Mo_readAbbreviations_186 hgo h) ⟨Or.inr rfl, Or.inl rfl, Or.inl rfl, Or.inr rfl, Or.inr rfl, Or.inl rfl, Or.inl rfl, Or.inl rfl, Or.inl rfl, Or.inl rfl, trivial⟩
    · rw [if_neg c5] at h
      refine a_iff i_Mo_readAbbreviations_96 c5 ?_
      refine a_aload_n i_Mo_readAbbreviations_99 rfl ?_
      refine a_get (v := .int (σ.1.1 0 13)) i_Mo_readAbbreviations_100 rfl rfl ?_
      refine a_istore i_Mo_readAbbreviations_103 rfl ?_
      refine a_aload_n i_Mo_readAbbreviations_105 rfl ?_
      refine a_get (v := .ref 6) i_Mo_readAbbreviations_106 rfl rfl ?_
      refine a_iload i_Mo_readAbbreviations_109 rfl ?_
      refine a_lload i_Mo_readAbbreviations_111 rfl ?_
      obtain ⟨c13, h⟩ := gd_some h
      refine a_las (n := 40) i_Mo_readAbbreviations_113 rfl rfl (inb_in c13) ?_
      refine a_aload_n i_Mo_readAbbreviations_114 rfl ?_
      refine a_get (v := .ref 7) i_Mo_readAbbreviations_115 rfl rfl ?_
      refine a_iload i_Mo_readAbbreviations_118 rfl ?_
      refine a_aload_n i_Mo_readAbbreviations_120 rfl ?_
      refine a_iconst i_Mo_readAbbreviations_121 ?_
      obtain ⟨v19, σ19, e19, h⟩ := am_bd_some h
      refine am_cvd (rest := [.int (σ.1.1 0 13), .ref 7]) [.int 0] c_Mo_readAbbreviations_122 ⟨by decide, _, rfl⟩ rfl (Nat.le_of_ble_eq_true rfl) (t_Mo_leb e19) ?_
      obtain ⟨c20, h⟩ := gd_some h
      refine a_las (n := 40) i_Mo_readAbbreviations_125 rfl rfl (inb_in c20) ?_
      refine a_aload_n i_Mo_readAbbreviations_126 rfl ?_
      refine a_iconst i_Mo_readAbbreviations_127 ?_
      obtain ⟨v23, σ23, e23, h⟩ := am_bd_some h
      refine am_cvd (rest := []) [.int 1] c_Mo_readAbbreviations_128 ⟨by decide, _, rfl⟩ rfl (Nat.le_of_ble_eq_true rfl) (t_Mo_u e23) ?_
      refine a_lstore i_Mo_readAbbreviations_131 rfl ?_
      refine a_aload_n i_Mo_readAbbreviations_133 rfl ?_
      refine a_get (v := .ref 10) i_Mo_readAbbreviations_134 rfl rfl ?_
      refine a_iload i_Mo_readAbbreviations_137 rfl ?_
      refine a_lload i_Mo_readAbbreviations_139 rfl ?_
      refine a_lconst i_Mo_readAbbreviations_141 ?_
      refine a_lcmp i_Mo_readAbbreviations_142 ?_
      by_cases c31 : (lg_cmp v23 1) = 0
      · rw [if_pos c31] at h
        refine a_iff i_Mo_readAbbreviations_143 c31 ?_
        refine a_iconst i_Mo_readAbbreviations_146 ?_
        refine a_goto i_Mo_readAbbreviations_147 ?_
        exact am_wk (t_Mo_readAbbreviations_151 hgo h) ⟨Or.inr rfl, Or.inl rfl, Or.inl rfl, Or.inl rfl, Or.inr rfl, Or.inl rfl, Or.inl rfl, Or.inr rfl, Or.inr rfl, Or.inl rfl, trivial⟩
      · rw [if_neg c31] at h
        refine a_ift i_Mo_readAbbreviations_143 c31 ?_
        refine a_iconst i_Mo_readAbbreviations_150 ?_
        exact am_wk (t_Mo_readAbbreviations_151 hgo h) ⟨Or.inr rfl, Or.inl rfl, Or.inl rfl, Or.inl rfl, Or.inr rfl, Or.inl rfl, Or.inl rfl, Or.inr rfl, Or.inr rfl, Or.inl rfl, trivial⟩
def g_Mo_readAbbreviations_84 (go : Int32 → Int32 → am_S → Option (Int32 × am_S)) (x4 : Int32) (x5 : Int64) (σ : am_S) : Option (Int32 × am_S) :=
  g_Mo_readAbbreviations_89 go x4 x5 (1) σ
set_option maxHeartbeats 4000000 in
theorem t_Mo_readAbbreviations_84 {x4 : Int32} {x5 : Int64} {σ σ' : am_S} {r : Int32} {go : Int32 → Int32 → am_S → Option (Int32 × am_S)} (hgo : ∀ {x3 : Int32} {x4 : Int32} {σ σ' : am_S} {r : Int32}, go x3 x4 σ = some (r, σ') → am_A S_m M_Mo_readAbbreviations (16, [some (.ref 0), none, none, some (.int x3), some (.int x4), none, none, none, none, none], [], σ) (am_r S_m (fun q τ => q = some (.int r) ∧ τ = σ'))) (h : g_Mo_readAbbreviations_84 go x4 x5 σ = some (r, σ')) : am_A S_m M_Mo_readAbbreviations (84, [some (.ref 0), none, none, none, some (.int x4), some (.long x5), none, none, none, none], [], σ) (am_r S_m (fun q τ => q = some (.int r) ∧ τ = σ')) := by
  unfold g_Mo_readAbbreviations_84 at h
  refine a_iconst i_Mo_readAbbreviations_84 ?_
  refine a_goto i_Mo_readAbbreviations_85 ?_
  exact t_Mo_readAbbreviations_89 hgo h
def g_Mo_readAbbreviations_88 (go : Int32 → Int32 → am_S → Option (Int32 × am_S)) (x4 : Int32) (x5 : Int64) (σ : am_S) : Option (Int32 × am_S) :=
  g_Mo_readAbbreviations_89 go x4 x5 (0) σ
set_option maxHeartbeats 4000000 in
theorem t_Mo_readAbbreviations_88 {x4 : Int32} {x5 : Int64} {σ σ' : am_S} {r : Int32} {go : Int32 → Int32 → am_S → Option (Int32 × am_S)} (hgo : ∀ {x3 : Int32} {x4 : Int32} {σ σ' : am_S} {r : Int32}, go x3 x4 σ = some (r, σ') → am_A S_m M_Mo_readAbbreviations (16, [some (.ref 0), none, none, some (.int x3), some (.int x4), none, none, none, none, none], [], σ) (am_r S_m (fun q τ => q = some (.int r) ∧ τ = σ'))) (h : g_Mo_readAbbreviations_88 go x4 x5 σ = some (r, σ')) : am_A S_m M_Mo_readAbbreviations (88, [some (.ref 0), none, none, none, some (.int x4), some (.long x5), none, none, none, none], [], σ) (am_r S_m (fun q τ => q = some (.int r) ∧ τ = σ')) := by
  unfold g_Mo_readAbbreviations_88 at h
  refine a_iconst i_Mo_readAbbreviations_88 ?_
  exact t_Mo_readAbbreviations_89 hgo h
def g_Mo_readAbbreviations_51 (go : Int32 → Int32 → am_S → Option (Int32 × am_S)) (x5 : Int64) (y0 : Int32) (σ : am_S) : Option (Int32 × am_S) :=
  if (σ.1.1 0 8) = 0 then
    if y0 = 0 then
      g_Mo_readAbbreviations_84 go y0 x5 σ
    else
      if (σ.1.1 0 13) < 40 then
        am_bd (g_Mo_abbreviation x5 σ) fun v13 σ13 =>
        if v13 = (-1) then
          g_Mo_readAbbreviations_84 go y0 x5 σ13
        else
          g_Mo_readAbbreviations_88 go y0 x5 σ13
      else
        g_Mo_readAbbreviations_88 go y0 x5 σ
  else
    g_Mo_readAbbreviations_88 go y0 x5 σ
set_option maxHeartbeats 4000000 in
theorem t_Mo_readAbbreviations_51 {x5 : Int64} {y0 : Int32} {σ σ' : am_S} {r : Int32} {go : Int32 → Int32 → am_S → Option (Int32 × am_S)} (hgo : ∀ {x3 : Int32} {x4 : Int32} {σ σ' : am_S} {r : Int32}, go x3 x4 σ = some (r, σ') → am_A S_m M_Mo_readAbbreviations (16, [some (.ref 0), none, none, some (.int x3), some (.int x4), none, none, none, none, none], [], σ) (am_r S_m (fun q τ => q = some (.int r) ∧ τ = σ'))) (h : g_Mo_readAbbreviations_51 go x5 y0 σ = some (r, σ')) : am_A S_m M_Mo_readAbbreviations (51, [some (.ref 0), none, none, none, none, some (.long x5), none, none, none, none], [.int y0], σ) (am_r S_m (fun q τ => q = some (.int r) ∧ τ = σ')) := by
  unfold g_Mo_readAbbreviations_51 at h
  refine a_istore i_Mo_readAbbreviations_51 rfl ?_
  refine a_aload_n i_Mo_readAbbreviations_53 rfl ?_
  refine a_get (v := .int (σ.1.1 0 8)) i_Mo_readAbbreviations_54 rfl rfl ?_
  by_cases c4 : (σ.1.1 0 8) = 0
  · rw [if_pos c4] at h
    refine a_iff i_Mo_readAbbreviations_57 c4 ?_
    refine a_iload i_Mo_readAbbreviations_60 rfl ?_
    by_cases c6 : y0 = 0
    · rw [if_pos c6] at h
      refine a_ift i_Mo_readAbbreviations_62 c6 ?_
      exact t_Mo_readAbbreviations_84 hgo h
    · rw [if_neg c6] at h
      refine a_iff i_Mo_readAbbreviations_62 c6 ?_
      refine a_aload_n i_Mo_readAbbreviations_65 rfl ?_
      refine a_get (v := .int (σ.1.1 0 13)) i_Mo_readAbbreviations_66 rfl rfl ?_
      refine a_bipush i_Mo_readAbbreviations_69 ?_
      by_cases c10 : (σ.1.1 0 13) < 40
      · rw [if_pos c10] at h
        refine a_icf i_Mo_readAbbreviations_71 (Int32.not_le.mpr c10) ?_
        refine a_aload_n i_Mo_readAbbreviations_74 rfl ?_
        refine a_lload i_Mo_readAbbreviations_75 rfl ?_
        obtain ⟨v13, σ13, e13, h⟩ := am_bd_some h
        refine am_cvd (rest := []) [.long x5] c_Mo_readAbbreviations_77 ⟨by decide, _, rfl⟩ rfl (Nat.le_of_ble_eq_true rfl) (t_Mo_abbreviation e13) ?_
        refine a_iconst i_Mo_readAbbreviations_80 ?_
        by_cases c15 : v13 = (-1)
        · rw [if_pos c15] at h
          refine a_icf i_Mo_readAbbreviations_81 c15 ?_
          exact t_Mo_readAbbreviations_84 hgo h
        · rw [if_neg c15] at h
          refine a_ict i_Mo_readAbbreviations_81 c15 ?_
          exact t_Mo_readAbbreviations_88 hgo h
      · rw [if_neg c10] at h
        refine a_ict i_Mo_readAbbreviations_71 (Int32.not_lt.mp c10) ?_
        exact t_Mo_readAbbreviations_88 hgo h
  · rw [if_neg c4] at h
    refine a_ift i_Mo_readAbbreviations_57 c4 ?_
    exact t_Mo_readAbbreviations_88 hgo h
def g_Mo_readAbbreviations_50 (go : Int32 → Int32 → am_S → Option (Int32 × am_S)) (x5 : Int64) (σ : am_S) : Option (Int32 × am_S) :=
  g_Mo_readAbbreviations_51 go x5 (0) σ
set_option maxHeartbeats 4000000 in
theorem t_Mo_readAbbreviations_50 {x5 : Int64} {σ σ' : am_S} {r : Int32} {go : Int32 → Int32 → am_S → Option (Int32 × am_S)} (hgo : ∀ {x3 : Int32} {x4 : Int32} {σ σ' : am_S} {r : Int32}, go x3 x4 σ = some (r, σ') → am_A S_m M_Mo_readAbbreviations (16, [some (.ref 0), none, none, some (.int x3), some (.int x4), none, none, none, none, none], [], σ) (am_r S_m (fun q τ => q = some (.int r) ∧ τ = σ'))) (h : g_Mo_readAbbreviations_50 go x5 σ = some (r, σ')) : am_A S_m M_Mo_readAbbreviations (50, [some (.ref 0), none, none, none, none, some (.long x5), none, none, none, none], [], σ) (am_r S_m (fun q τ => q = some (.int r) ∧ τ = σ')) := by
  unfold g_Mo_readAbbreviations_50 at h
  refine a_iconst i_Mo_readAbbreviations_50 ?_
  exact t_Mo_readAbbreviations_51 hgo h
def g_Mo_readAbbreviations_189 (x3 : Int32) (σ : am_S) : Option (Int32 × am_S) :=
  am_gd (z01 x3) <|
  some (x3, σ)
set_option maxHeartbeats 4000000 in
theorem t_Mo_readAbbreviations_189 {x3 : Int32} {σ σ' : am_S} {r : Int32} (h : g_Mo_readAbbreviations_189 x3 σ = some (r, σ')) : am_A S_m M_Mo_readAbbreviations (189, [none, none, none, some (.int x3), none, none, none, none, none, none], [], σ) (am_r S_m (fun q τ => q = some (.int r) ∧ τ = σ')) := by
  unfold g_Mo_readAbbreviations_189 at h
  refine a_iload_n i_Mo_readAbbreviations_189 rfl ?_
  obtain ⟨c2, h⟩ := gd_some h
  exact am_ret_z ok_Mo_readAbbreviations rfl rfl (z01_or c2) (am_lf_i h)
def g_Mo_readAbbreviations_16 : Nat → Int32 → Int32 → am_S → Option (Int32 × am_S)
  | 0, _, _, _ => none
  | n + 1, x3, x4, σ =>
  if x4 = 0 then
    g_Mo_readAbbreviations_189 x3 σ
  else
    if x3 = 0 then
      g_Mo_readAbbreviations_189 x3 σ
    else
      am_bd (g_Mo_leb (0) σ) fun v7 σ7 =>
      if (σ7.1.1 0 8) = 0 then
        if (lg_cmp v7 0) = 0 then
          g_Mo_readAbbreviations_50 (g_Mo_readAbbreviations_16 n) v7 σ7
        else
          g_Mo_readAbbreviations_51 (g_Mo_readAbbreviations_16 n) v7 (1) σ7
      else
        g_Mo_readAbbreviations_50 (g_Mo_readAbbreviations_16 n) v7 σ7
set_option maxHeartbeats 4000000 in
theorem t_Mo_readAbbreviations_16 : ∀ (n : Nat) {x3 : Int32} {x4 : Int32} {σ σ' : am_S} {r : Int32} (h : g_Mo_readAbbreviations_16 n x3 x4 σ = some (r, σ')), am_A S_m M_Mo_readAbbreviations (16, [some (.ref 0), none, none, some (.int x3), some (.int x4), none, none, none, none, none], [], σ) (am_r S_m (fun q τ => q = some (.int r) ∧ τ = σ')) := by
  intro n
  induction n with
  | zero =>
    intro x3 x4 σ σ' r h
    cases h
  | succ n ih =>
  intro x3 x4 σ σ' r h
  unfold g_Mo_readAbbreviations_16 at h
  refine a_iload i_Mo_readAbbreviations_16 rfl ?_
  by_cases c2 : x4 = 0
  · rw [if_pos c2] at h
    refine a_ift i_Mo_readAbbreviations_18 c2 ?_
    exact am_wk (t_Mo_readAbbreviations_189 h) ⟨Or.inl rfl, Or.inl rfl, Or.inl rfl, Or.inr rfl, Or.inl rfl, Or.inl rfl, Or.inl rfl, Or.inl rfl, Or.inl rfl, Or.inl rfl, trivial⟩
  · rw [if_neg c2] at h
    refine a_iff i_Mo_readAbbreviations_18 c2 ?_
    refine a_iload_n i_Mo_readAbbreviations_21 rfl ?_
    by_cases c4 : x3 = 0
    · rw [if_pos c4] at h
      refine a_ift i_Mo_readAbbreviations_22 c4 ?_
      exact am_wk (t_Mo_readAbbreviations_189 h) ⟨Or.inl rfl, Or.inl rfl, Or.inl rfl, Or.inr rfl, Or.inl rfl, Or.inl rfl, Or.inl rfl, Or.inl rfl, Or.inl rfl, Or.inl rfl, trivial⟩
    · rw [if_neg c4] at h
      refine a_iff i_Mo_readAbbreviations_22 c4 ?_
      refine a_aload_n i_Mo_readAbbreviations_25 rfl ?_
      refine a_iconst i_Mo_readAbbreviations_26 ?_
      obtain ⟨v7, σ7, e7, h⟩ := am_bd_some h
      refine am_cvd (rest := []) [.int 0] c_Mo_readAbbreviations_27 ⟨by decide, _, rfl⟩ rfl (Nat.le_of_ble_eq_true rfl) (t_Mo_leb e7) ?_
      refine a_lstore i_Mo_readAbbreviations_30 rfl ?_
      refine a_aload_n i_Mo_readAbbreviations_32 rfl ?_
      refine a_get (v := .int (σ7.1.1 0 8)) i_Mo_readAbbreviations_33 rfl rfl ?_
      by_cases c11 : (σ7.1.1 0 8) = 0
      · rw [if_pos c11] at h
        refine a_iff i_Mo_readAbbreviations_36 c11 ?_
        refine a_lload i_Mo_readAbbreviations_39 rfl ?_
        refine a_lconst i_Mo_readAbbreviations_41 ?_
        refine a_lcmp i_Mo_readAbbreviations_42 ?_
        by_cases c15 : (lg_cmp v7 0) = 0
        · rw [if_pos c15] at h
          refine a_ift i_Mo_readAbbreviations_43 c15 ?_
          exact am_wk (t_Mo_readAbbreviations_50 (fun h => ih h) h) ⟨Or.inr rfl, Or.inl rfl, Or.inl rfl, Or.inl rfl, Or.inl rfl, Or.inr rfl, Or.inl rfl, Or.inl rfl, Or.inl rfl, Or.inl rfl, trivial⟩
        · rw [if_neg c15] at h
          refine a_iff i_Mo_readAbbreviations_43 c15 ?_
          refine a_iconst i_Mo_readAbbreviations_46 ?_
          refine a_goto i_Mo_readAbbreviations_47 ?_
          exact am_wk (t_Mo_readAbbreviations_51 (fun h => ih h) h) ⟨Or.inr rfl, Or.inl rfl, Or.inl rfl, Or.inl rfl, Or.inl rfl, Or.inr rfl, Or.inl rfl, Or.inl rfl, Or.inl rfl, Or.inl rfl, trivial⟩
      · rw [if_neg c11] at h
        refine a_ift i_Mo_readAbbreviations_36 c11 ?_
        exact am_wk (t_Mo_readAbbreviations_50 (fun h => ih h) h) ⟨Or.inr rfl, Or.inl rfl, Or.inl rfl, Or.inl rfl, Or.inl rfl, Or.inr rfl, Or.inl rfl, Or.inl rfl, Or.inl rfl, Or.inl rfl, trivial⟩
def g_Mo_readAbbreviations (x1 : Int64) (σ : am_S) : Option (Int32 × am_S) :=
  am_bd (g_Mo_enter (0) x1 σ) fun _ σ4 =>
  g_Mo_readAbbreviations_16 4000 (1) (1) (am_fi σ4 0 13 0)
set_option maxHeartbeats 4000000 in
theorem t_Mo_readAbbreviations_0 {x1 : Int64} {σ σ' : am_S} {r : Int32} (h : g_Mo_readAbbreviations x1 σ = some (r, σ')) : am_A S_m M_Mo_readAbbreviations (0, [some (.ref 0), some (.long x1), none, none, none, none, none, none, none, none], [], σ) (am_r S_m (fun q τ => q = some (.int r) ∧ τ = σ')) := by
  unfold g_Mo_readAbbreviations at h
  refine a_aload_n i_Mo_readAbbreviations_0 rfl ?_
  refine a_iconst i_Mo_readAbbreviations_1 ?_
  refine a_lload_n i_Mo_readAbbreviations_2 rfl ?_
  obtain ⟨v4, σ4, e4, h⟩ := am_bd_some h
  refine am_cvd (rest := []) [.int 0, .long x1] c_Mo_readAbbreviations_3 ⟨by decide, _, rfl⟩ rfl (Nat.le_of_ble_eq_true rfl) (t_Mo_enter e4) ?_
  refine a_aload_n i_Mo_readAbbreviations_6 rfl ?_
  refine a_iconst i_Mo_readAbbreviations_7 ?_
  refine a_puti i_Mo_readAbbreviations_8 rfl trivial ?_
  refine a_iconst i_Mo_readAbbreviations_11 ?_
  refine a_istore_n i_Mo_readAbbreviations_12 rfl ?_
  refine a_iconst i_Mo_readAbbreviations_13 ?_
  refine a_istore i_Mo_readAbbreviations_14 rfl ?_
  exact am_wk (t_Mo_readAbbreviations_16 4000 h) ⟨Or.inr rfl, Or.inl rfl, Or.inl rfl, Or.inr rfl, Or.inr rfl, Or.inl rfl, Or.inl rfl, Or.inl rfl, Or.inl rfl, Or.inl rfl, trivial⟩
theorem t_Mo_readAbbreviations {x1 : Int64} {σ σ' : am_S} {r : Int32} (h : g_Mo_readAbbreviations x1 σ = some (r, σ')) : am_Mt S_m M_Mo_readAbbreviations [.ref 0, .long x1] σ (fun q τ => q = some (.int r) ∧ τ = σ') :=
  am_M_of ok_Mo_readAbbreviations (Nat.le_of_ble_eq_true rfl) (t_Mo_readAbbreviations_0 h)
def g_Mo_known_19 (y0 : Int64) (σ : am_S) : Option (Int32 × am_S) :=
  if y0.toInt32 = 3 then
    some (0, σ)
  else
  if y0.toInt32 = 16 then
    some (7, σ)
  else
  if y0.toInt32 = 17 then
    some (1, σ)
  else
  if y0.toInt32 = 18 then
    some (2, σ)
  else
  if y0.toInt32 = 49 then
    some (4, σ)
  else
  if y0.toInt32 = 85 then
    some (3, σ)
  else
  if y0.toInt32 = 88 then
    some (5, σ)
  else
  if y0.toInt32 = 89 then
    some (6, σ)
  else
  if y0.toInt32 = 114 then
    some (8, σ)
  else
  if y0.toInt32 = 115 then
    some (9, σ)
  else
  if y0.toInt32 = 116 then
    some (10, σ)
  else
  some ((-1), σ)
set_option maxHeartbeats 4000000 in
theorem t_Mo_known_19 {y0 : Int64} {σ σ' : am_S} {r : Int32} (h : g_Mo_known_19 y0 σ = some (r, σ')) : am_A S_m M_Mo_known (19, [none, none], [.long y0], σ) (am_r S_m (fun q τ => q = some (.int r) ∧ τ = σ')) := by
  unfold g_Mo_known_19 at h
  refine a_l2i i_Mo_known_19 ?_
  by_cases d2_0 : y0.toInt32 = 3
  · rw [if_pos d2_0] at h
    refine a_lks 0 i_Mo_known_20 rfl (by rw [d2_0]; decide) rfl ?_
    refine a_iconst i_Mo_known_120 ?_
    exact am_ret_i ok_Mo_known rfl rfl (am_lf_i h)
  rw [if_neg d2_0] at h
  by_cases d2_1 : y0.toInt32 = 16
  · rw [if_pos d2_1] at h
    refine a_lks 1 i_Mo_known_20 rfl (by rw [d2_1]; decide) rfl ?_
    refine a_bipush i_Mo_known_135 ?_
    exact am_ret_i ok_Mo_known rfl rfl (am_lf_i h)
  rw [if_neg d2_1] at h
  by_cases d2_2 : y0.toInt32 = 17
  · rw [if_pos d2_2] at h
    refine a_lks 2 i_Mo_known_20 rfl (by rw [d2_2]; decide) rfl ?_
    refine a_iconst i_Mo_known_122 ?_
    exact am_ret_i ok_Mo_known rfl rfl (am_lf_i h)
  rw [if_neg d2_2] at h
  by_cases d2_3 : y0.toInt32 = 18
  · rw [if_pos d2_3] at h
    refine a_lks 3 i_Mo_known_20 rfl (by rw [d2_3]; decide) rfl ?_
    refine a_iconst i_Mo_known_124 ?_
    exact am_ret_i ok_Mo_known rfl rfl (am_lf_i h)
  rw [if_neg d2_3] at h
  by_cases d2_4 : y0.toInt32 = 49
  · rw [if_pos d2_4] at h
    refine a_lks 4 i_Mo_known_20 rfl (by rw [d2_4]; decide) rfl ?_
    refine a_iconst i_Mo_known_128 ?_
    exact am_ret_i ok_Mo_known rfl rfl (am_lf_i h)
  rw [if_neg d2_4] at h
  by_cases d2_5 : y0.toInt32 = 85
  · rw [if_pos d2_5] at h
    refine a_lks 5 i_Mo_known_20 rfl (by rw [d2_5]; decide) rfl ?_
    refine a_iconst i_Mo_known_126 ?_
    exact am_ret_i ok_Mo_known rfl rfl (am_lf_i h)
  rw [if_neg d2_5] at h
  by_cases d2_6 : y0.toInt32 = 88
  · rw [if_pos d2_6] at h
    refine a_lks 6 i_Mo_known_20 rfl (by rw [d2_6]; decide) rfl ?_
    refine a_iconst i_Mo_known_130 ?_
    exact am_ret_i ok_Mo_known rfl rfl (am_lf_i h)
  rw [if_neg d2_6] at h
  by_cases d2_7 : y0.toInt32 = 89
  · rw [if_pos d2_7] at h
    refine a_lks 7 i_Mo_known_20 rfl (by rw [d2_7]; decide) rfl ?_
    refine a_bipush i_Mo_known_132 ?_
    exact am_ret_i ok_Mo_known rfl rfl (am_lf_i h)
  rw [if_neg d2_7] at h
  by_cases d2_8 : y0.toInt32 = 114
  · rw [if_pos d2_8] at h
    refine a_lks 8 i_Mo_known_20 rfl (by rw [d2_8]; decide) rfl ?_
    refine a_bipush i_Mo_known_138 ?_
    exact am_ret_i ok_Mo_known rfl rfl (am_lf_i h)
  rw [if_neg d2_8] at h
  by_cases d2_9 : y0.toInt32 = 115
  · rw [if_pos d2_9] at h
    refine a_lks 9 i_Mo_known_20 rfl (by rw [d2_9]; decide) rfl ?_
    refine a_bipush i_Mo_known_141 ?_
    exact am_ret_i ok_Mo_known rfl rfl (am_lf_i h)
  rw [if_neg d2_9] at h
  by_cases d2_10 : y0.toInt32 = 116
  · rw [if_pos d2_10] at h
    refine a_lks 10 i_Mo_known_20 rfl (by rw [d2_10]; decide) rfl ?_
    refine a_bipush i_Mo_known_144 ?_
    exact am_ret_i ok_Mo_known rfl rfl (am_lf_i h)
  rw [if_neg d2_10] at h
  refine a_lksd i_Mo_known_20 (lks_n _ _ _ (List.forall_mem_cons.mpr ⟨lv_neT d2_0 (a := 3) (by decide), List.forall_mem_cons.mpr ⟨lv_neT d2_1 (a := 16) (by decide), List.forall_mem_cons.mpr ⟨lv_neT d2_2 (a := 17) (by decide), List.forall_mem_cons.mpr ⟨lv_neT d2_3 (a := 18) (by decide), List.forall_mem_cons.mpr ⟨lv_neT d2_4 (a := 49) (by decide), List.forall_mem_cons.mpr ⟨lv_neT d2_5 (a := 85) (by decide), List.forall_mem_cons.mpr ⟨lv_neT d2_6 (a := 88) (by decide), List.forall_mem_cons.mpr ⟨lv_neT d2_7 (a := 89) (by decide), List.forall_mem_cons.mpr ⟨lv_neT d2_8 (a := 114) (by decide), List.forall_mem_cons.mpr ⟨lv_neT d2_9 (a := 115) (by decide), List.forall_mem_cons.mpr ⟨lv_neT d2_10 (a := 116) (by decide), fun _ h9 => absurd h9 List.not_mem_nil⟩⟩⟩⟩⟩⟩⟩⟩⟩⟩⟩)) rfl ?_
  refine a_iconst i_Mo_known_147 ?_
  exact am_ret_i ok_Mo_known rfl rfl (am_lf_i h)
def g_Mo_known_14 (σ : am_S) : Option (Int32 × am_S) :=
  g_Mo_known_19 (0) σ
set_option maxHeartbeats 4000000 in
theorem t_Mo_known_14 {σ σ' : am_S} {r : Int32} (h : g_Mo_known_14 σ = some (r, σ')) : am_A S_m M_Mo_known (14, [none, none], [], σ) (am_r S_m (fun q τ => q = some (.int r) ∧ τ = σ')) := by
  unfold g_Mo_known_14 at h
  refine a_lconst i_Mo_known_14 ?_
  refine a_goto i_Mo_known_15 ?_
  exact t_Mo_known_19 h
def g_Mo_known (x0 : Int64) (σ : am_S) : Option (Int32 × am_S) :=
  if (lg_cmp x0 0) < 0 then
    g_Mo_known_14 σ
  else
    if 0 < (lg_cmp x0 255) then
      g_Mo_known_14 σ
    else
      g_Mo_known_19 x0 σ
set_option maxHeartbeats 4000000 in
theorem t_Mo_known_0 {x0 : Int64} {σ σ' : am_S} {r : Int32} (h : g_Mo_known x0 σ = some (r, σ')) : am_A S_m M_Mo_known (0, [some (.long x0), none], [], σ) (am_r S_m (fun q τ => q = some (.int r) ∧ τ = σ')) := by
  unfold g_Mo_known at h
  refine a_lload_n i_Mo_known_0 rfl ?_
  refine a_lconst i_Mo_known_1 ?_
  refine a_lcmp i_Mo_known_2 ?_
  by_cases c4 : (lg_cmp x0 0) < 0
  · rw [if_pos c4] at h
    refine a_ift i_Mo_known_3 c4 ?_
    exact am_wk (t_Mo_known_14 h) ⟨Or.inl rfl, Or.inl rfl, trivial⟩
  · rw [if_neg c4] at h
    refine a_iff i_Mo_known_3 c4 ?_
    refine a_lload_n i_Mo_known_6 rfl ?_
    refine a_ldc2 i_Mo_known_7 ?_
    refine a_lcmp i_Mo_known_10 ?_
    by_cases c8 : 0 < (lg_cmp x0 255)
    · rw [if_pos c8] at h
      refine a_iff i_Mo_known_11 (Int32.not_le.mpr c8) ?_
      exact am_wk (t_Mo_known_14 h) ⟨Or.inl rfl, Or.inl rfl, trivial⟩
    · rw [if_neg c8] at h
      refine a_ift i_Mo_known_11 (Int32.not_lt.mp c8) ?_
      refine a_lload_n i_Mo_known_18 rfl ?_
      exact am_wk (t_Mo_known_19 h) ⟨Or.inl rfl, Or.inl rfl, trivial⟩
theorem t_Mo_known {x0 : Int64} {σ σ' : am_S} {r : Int32} (h : g_Mo_known x0 σ = some (r, σ')) : am_Mt S_m M_Mo_known [.long x0] σ (fun q τ => q = some (.int r) ∧ τ = σ') :=
  am_M_of ok_Mo_known (Nat.le_of_ble_eq_true rfl) (t_Mo_known_0 h)
def g_Mo_readValue_164 (σ : am_S) : Option (Int64 × am_S) :=
  am_bd (g_Mo_u (8) σ) fun v3 σ3 =>
  some (v3, σ3)
set_option maxHeartbeats 4000000 in
theorem t_Mo_readValue_164 {σ σ' : am_S} {r : Int64} (h : g_Mo_readValue_164 σ = some (r, σ')) : am_A S_m M_Mo_readValue (164, [some (.ref 0), none, none, none], [], σ) (am_r S_m (fun q τ => q = some (.long r) ∧ τ = σ')) := by
  unfold g_Mo_readValue_164 at h
  refine a_aload_n i_Mo_readValue_164 rfl ?_
  refine a_bipush i_Mo_readValue_165 ?_
  obtain ⟨v3, σ3, e3, h⟩ := am_bd_some h
  refine am_cvd (rest := []) [.int 8] c_Mo_readValue_167 ⟨by decide, _, rfl⟩ rfl (Nat.le_of_ble_eq_true rfl) (t_Mo_u e3) ?_
  exact am_ret_l ok_Mo_readValue rfl rfl (am_lf_l h)
def g_Mo_readValue_171 (σ : am_S) : Option (Int64 × am_S) :=
  am_bd (g_Mo_u (1) σ) fun v3 σ3 =>
  some (v3, σ3)
set_option maxHeartbeats 4000000 in
theorem t_Mo_readValue_171 {σ σ' : am_S} {r : Int64} (h : g_Mo_readValue_171 σ = some (r, σ')) : am_A S_m M_Mo_readValue (171, [some (.ref 0), none, none, none], [], σ) (am_r S_m (fun q τ => q = some (.long r) ∧ τ = σ')) := by
  unfold g_Mo_readValue_171 at h
  refine a_aload_n i_Mo_readValue_171 rfl ?_
  refine a_iconst i_Mo_readValue_172 ?_
  obtain ⟨v3, σ3, e3, h⟩ := am_bd_some h
  refine am_cvd (rest := []) [.int 1] c_Mo_readValue_173 ⟨by decide, _, rfl⟩ rfl (Nat.le_of_ble_eq_true rfl) (t_Mo_u e3) ?_
  exact am_ret_l ok_Mo_readValue rfl rfl (am_lf_l h)
def g_Mo_readValue_183 (σ : am_S) : Option (Int64 × am_S) :=
  am_bd (g_Mo_u (4) σ) fun v3 σ3 =>
  some (v3, σ3)
set_option maxHeartbeats 4000000 in
theorem t_Mo_readValue_183 {σ σ' : am_S} {r : Int64} (h : g_Mo_readValue_183 σ = some (r, σ')) : am_A S_m M_Mo_readValue (183, [some (.ref 0), none, none, none], [], σ) (am_r S_m (fun q τ => q = some (.long r) ∧ τ = σ')) := by
  unfold g_Mo_readValue_183 at h
  refine a_aload_n i_Mo_readValue_183 rfl ?_
  refine a_iconst i_Mo_readValue_184 ?_
  obtain ⟨v3, σ3, e3, h⟩ := am_bd_some h
  refine am_cvd (rest := []) [.int 4] c_Mo_readValue_185 ⟨by decide, _, rfl⟩ rfl (Nat.le_of_ble_eq_true rfl) (t_Mo_u e3) ?_
  exact am_ret_l ok_Mo_readValue rfl rfl (am_lf_l h)
def g_Mo_readValue_195 (σ : am_S) : Option (Int64 × am_S) :=
  am_bd (g_Mo_leb (0) σ) fun v3 σ3 =>
  some (v3, σ3)
set_option maxHeartbeats 4000000 in
theorem t_Mo_readValue_195 {σ σ' : am_S} {r : Int64} (h : g_Mo_readValue_195 σ = some (r, σ')) : am_A S_m M_Mo_readValue (195, [some (.ref 0), none, none, none], [], σ) (am_r S_m (fun q τ => q = some (.long r) ∧ τ = σ')) := by
  unfold g_Mo_readValue_195 at h
  refine a_aload_n i_Mo_readValue_195 rfl ?_
  refine a_iconst i_Mo_readValue_196 ?_
  obtain ⟨v3, σ3, e3, h⟩ := am_bd_some h
  refine am_cvd (rest := []) [.int 0] c_Mo_readValue_197 ⟨by decide, _, rfl⟩ rfl (Nat.le_of_ble_eq_true rfl) (t_Mo_leb e3) ?_
  exact am_ret_l ok_Mo_readValue rfl rfl (am_lf_l h)
def g_Mo_readValue_211 (σ : am_S) : Option (Int64 × am_S) :=
  am_bd (g_Mo_leb (0) σ) fun v4 σ4 =>
  am_bd (g_Mo_pass v4 σ4) fun _ σ5 =>
  some (0, σ5)
set_option maxHeartbeats 4000000 in
theorem t_Mo_readValue_211 {σ σ' : am_S} {r : Int64} (h : g_Mo_readValue_211 σ = some (r, σ')) : am_A S_m M_Mo_readValue (211, [some (.ref 0), none, none, none], [], σ) (am_r S_m (fun q τ => q = some (.long r) ∧ τ = σ')) := by
  unfold g_Mo_readValue_211 at h
  refine a_aload_n i_Mo_readValue_211 rfl ?_
  refine a_aload_n i_Mo_readValue_212 rfl ?_
  refine a_iconst i_Mo_readValue_213 ?_
  obtain ⟨v4, σ4, e4, h⟩ := am_bd_some h
  refine am_cvd (rest := [.ref 0]) [.int 0] c_Mo_readValue_214 ⟨by decide, _, rfl⟩ rfl (Nat.le_of_ble_eq_true rfl) (t_Mo_leb e4) ?_
  obtain ⟨v5, σ5, e5, h⟩ := am_bd_some h
  refine am_cvd (rest := []) [.long v4] c_Mo_readValue_217 ⟨by decide, _, rfl⟩ rfl (Nat.le_of_ble_eq_true rfl) (t_Mo_pass e5) ?_
  refine a_lconst i_Mo_readValue_220 ?_
  exact am_ret_l ok_Mo_readValue rfl rfl (am_lf_l h)
def g_Mo_readValue (x1 : Int32) (x2 : Int64) (σ : am_S) : Option (Int64 × am_S) :=
  if x1 = 1 then
    g_Mo_readValue_164 σ
  else
  if x1 = 5 then
    am_bd (g_Mo_u (2) σ) fun v5 σ5 =>
    some (v5, σ5)
  else
  if x1 = 6 then
    g_Mo_readValue_183 σ
  else
  if x1 = 7 then
    g_Mo_readValue_164 σ
  else
  if x1 = 8 then
    am_bd (g_Mo_text σ) fun v4 σ4 =>
    some (v4.toInt64, σ4)
  else
  if x1 = 11 then
    g_Mo_readValue_171 σ
  else
  if x1 = 13 then
    am_bd (g_Mo_leb (1) σ) fun v5 σ5 =>
    some (v5, σ5)
  else
  if x1 = 14 then
    g_Mo_readValue_183 σ
  else
  if x1 = 15 then
    g_Mo_readValue_195 σ
  else
  if x1 = 19 then
    g_Mo_readValue_183 σ
  else
  if x1 = 23 then
    g_Mo_readValue_183 σ
  else
  if x1 = 25 then
    some (1, σ)
  else
  if x1 = 27 then
    g_Mo_readValue_195 σ
  else
  if x1 = 31 then
    g_Mo_readValue_183 σ
  else
  if x1 = 33 then
    some (x2, σ)
  else
  if x1 = 35 then
    g_Mo_readValue_195 σ
  else
  if x1 = 37 then
    g_Mo_readValue_171 σ
  else
  g_Mo_readValue_211 σ
set_option maxHeartbeats 4000000 in
theorem t_Mo_readValue_0 {x1 : Int32} {x2 : Int64} {σ σ' : am_S} {r : Int64} (h : g_Mo_readValue x1 x2 σ = some (r, σ')) : am_A S_m M_Mo_readValue (0, [some (.ref 0), some (.int x1), some (.long x2), none], [], σ) (am_r S_m (fun q τ => q = some (.long r) ∧ τ = σ')) := by
  unfold g_Mo_readValue at h
  refine a_iload_n i_Mo_readValue_0 rfl ?_
  by_cases d2_0 : x1 = 1
  · rw [if_pos d2_0] at h
    refine a_tab 0 i_Mo_readValue_1 rfl (by rw [d2_0]; decide) (by decide) rfl ?_
    exact am_wk (t_Mo_readValue_164 h) ⟨Or.inr rfl, Or.inl rfl, Or.inl rfl, Or.inl rfl, trivial⟩
  rw [if_neg d2_0] at h
  by_cases d2_1 : x1 = 5
  · rw [if_pos d2_1] at h
    refine a_tab 4 i_Mo_readValue_1 rfl (by rw [d2_1]; decide) (by decide) rfl ?_
    refine a_aload_n i_Mo_readValue_177 rfl ?_
    refine a_iconst i_Mo_readValue_178 ?_
    obtain ⟨v5, σ5, e5, h⟩ := am_bd_some h
    refine am_cvd (rest := []) [.int 2] c_Mo_readValue_179 ⟨by decide, _, rfl⟩ rfl (Nat.le_of_ble_eq_true rfl) (t_Mo_u e5) ?_
    exact am_ret_l ok_Mo_readValue rfl rfl (am_lf_l h)
  rw [if_neg d2_1] at h
  by_cases d2_2 : x1 = 6
  · rw [if_pos d2_2] at h
    refine a_tab 5 i_Mo_readValue_1 rfl (by rw [d2_2]; decide) (by decide) rfl ?_
    exact am_wk (t_Mo_readValue_183 h) ⟨Or.inr rfl, Or.inl rfl, Or.inl rfl, Or.inl rfl, trivial⟩
  rw [if_neg d2_2] at h
  by_cases d2_3 : x1 = 7
  · rw [if_pos d2_3] at h
    refine a_tab 6 i_Mo_readValue_1 rfl (by rw [d2_3]; decide) (by decide) rfl ?_
    exact am_wk (t_Mo_readValue_164 h) ⟨Or.inr rfl, Or.inl rfl, Or.inl rfl, Or.inl rfl, trivial⟩
  rw [if_neg d2_3] at h
  by_cases d2_4 : x1 = 8
  · rw [if_pos d2_4] at h
    refine a_tab 7 i_Mo_readValue_1 rfl (by rw [d2_4]; decide) (by decide) rfl ?_
    refine a_aload_n i_Mo_readValue_205 rfl ?_
    obtain ⟨v4, σ4, e4, h⟩ := am_bd_some h
    refine am_cvd (rest := []) [] c_Mo_readValue_206 ⟨by decide, _, rfl⟩ rfl (Nat.le_of_ble_eq_true rfl) (t_Mo_text e4) ?_
    refine a_i2l i_Mo_readValue_209 ?_
    exact am_ret_l ok_Mo_readValue rfl rfl (am_lf_l h)
  rw [if_neg d2_4] at h
  by_cases d2_5 : x1 = 11
  · rw [if_pos d2_5] at h
    refine a_tab 10 i_Mo_readValue_1 rfl (by rw [d2_5]; decide) (by decide) rfl ?_
    exact am_wk (t_Mo_readValue_171 h) ⟨Or.inr rfl, Or.inl rfl, Or.inl rfl, Or.inl rfl, trivial⟩
  rw [if_neg d2_5] at h
  by_cases d2_6 : x1 = 13
  · rw [if_pos d2_6] at h
    refine a_tab 12 i_Mo_readValue_1 rfl (by rw [d2_6]; decide) (by decide) rfl ?_
    refine a_aload_n i_Mo_readValue_189 rfl ?_
    refine a_iconst i_Mo_readValue_190 ?_
    obtain ⟨v5, σ5, e5, h⟩ := am_bd_some h
    refine am_cvd (rest := []) [.int 1] c_Mo_readValue_191 ⟨by decide, _, rfl⟩ rfl (Nat.le_of_ble_eq_true rfl) (t_Mo_leb e5) ?_
    exact am_ret_l ok_Mo_readValue rfl rfl (am_lf_l h)
  rw [if_neg d2_6] at h
  by_cases d2_7 : x1 = 14
  · rw [if_pos d2_7] at h
    refine a_tab 13 i_Mo_readValue_1 rfl (by rw [d2_7]; decide) (by decide) rfl ?_
    exact am_wk (t_Mo_readValue_183 h) ⟨Or.inr rfl, Or.inl rfl, Or.inl rfl, Or.inl rfl, trivial⟩
  rw [if_neg d2_7] at h
  by_cases d2_8 : x1 = 15
  · rw [if_pos d2_8] at h
    refine a_tab 14 i_Mo_readValue_1 rfl (by rw [d2_8]; decide) (by decide) rfl ?_
    exact am_wk (t_Mo_readValue_195 h) ⟨Or.inr rfl, Or.inl rfl, Or.inl rfl, Or.inl rfl, trivial⟩
  rw [if_neg d2_8] at h
  by_cases d2_9 : x1 = 19
  · rw [if_pos d2_9] at h
    refine a_tab 18 i_Mo_readValue_1 rfl (by rw [d2_9]; decide) (by decide) rfl ?_
    exact am_wk (t_Mo_readValue_183 h) ⟨Or.inr rfl, Or.inl rfl, Or.inl rfl, Or.inl rfl, trivial⟩
  rw [if_neg d2_9] at h
  by_cases d2_10 : x1 = 23
  · rw [if_pos d2_10] at h
    refine a_tab 22 i_Mo_readValue_1 rfl (by rw [d2_10]; decide) (by decide) rfl ?_
    exact am_wk (t_Mo_readValue_183 h) ⟨Or.inr rfl, Or.inl rfl, Or.inl rfl, Or.inl rfl, trivial⟩
  rw [if_neg d2_10] at h
  by_cases d2_11 : x1 = 25
  · rw [if_pos d2_11] at h
    refine a_tab 24 i_Mo_readValue_1 rfl (by rw [d2_11]; decide) (by decide) rfl ?_
    refine a_lconst i_Mo_readValue_203 ?_
    exact am_ret_l ok_Mo_readValue rfl rfl (am_lf_l h)
  rw [if_neg d2_11] at h
  by_cases d2_12 : x1 = 27
  · rw [if_pos d2_12] at h
    refine a_tab 26 i_Mo_readValue_1 rfl (by rw [d2_12]; decide) (by decide) rfl ?_
    exact am_wk (t_Mo_readValue_195 h) ⟨Or.inr rfl, Or.inl rfl, Or.inl rfl, Or.inl rfl, trivial⟩
  rw [if_neg d2_12] at h
  by_cases d2_13 : x1 = 31
  · rw [if_pos d2_13] at h
    refine a_tab 30 i_Mo_readValue_1 rfl (by rw [d2_13]; decide) (by decide) rfl ?_
    exact am_wk (t_Mo_readValue_183 h) ⟨Or.inr rfl, Or.inl rfl, Or.inl rfl, Or.inl rfl, trivial⟩
  rw [if_neg d2_13] at h
  by_cases d2_14 : x1 = 33
  · rw [if_pos d2_14] at h
    refine a_tab 32 i_Mo_readValue_1 rfl (by rw [d2_14]; decide) (by decide) rfl ?_
    refine a_lload_n i_Mo_readValue_201 rfl ?_
    exact am_ret_l ok_Mo_readValue rfl rfl (am_lf_l h)
  rw [if_neg d2_14] at h
  by_cases d2_15 : x1 = 35
  · rw [if_pos d2_15] at h
    refine a_tab 34 i_Mo_readValue_1 rfl (by rw [d2_15]; decide) (by decide) rfl ?_
    exact am_wk (t_Mo_readValue_195 h) ⟨Or.inr rfl, Or.inl rfl, Or.inl rfl, Or.inl rfl, trivial⟩
  rw [if_neg d2_15] at h
  by_cases d2_16 : x1 = 37
  · rw [if_pos d2_16] at h
    refine a_tab 36 i_Mo_readValue_1 rfl (by rw [d2_16]; decide) (by decide) rfl ?_
    exact am_wk (t_Mo_readValue_171 h) ⟨Or.inr rfl, Or.inl rfl, Or.inl rfl, Or.inl rfl, trivial⟩
  rw [if_neg d2_16] at h
  refine a_tabn [1, 5, 6, 7, 8, 11, 13, 14, 15, 19, 23, 25, 27, 31, 33, 35, 37] i_Mo_readValue_1 rfl rfl (by decide) (List.forall_mem_cons.mpr ⟨lv_neT d2_0 (a := 1) (by decide), List.forall_mem_cons.mpr ⟨lv_neT d2_1 (a := 5) (by decide), List.forall_mem_cons.mpr ⟨lv_neT d2_2 (a := 6) (by decide), List.forall_mem_cons.mpr ⟨lv_neT d2_3 (a := 7) (by decide), List.forall_mem_cons.mpr ⟨lv_neT d2_4 (a := 8) (by decide), List.forall_mem_cons.mpr ⟨lv_neT d2_5 (a := 11) (by decide), List.forall_mem_cons.mpr ⟨lv_neT d2_6 (a := 13) (by decide), List.forall_mem_cons.mpr ⟨lv_neT d2_7 (a := 14) (by decide), List.forall_mem_cons.mpr ⟨lv_neT d2_8 (a := 15) (by decide), List.forall_mem_cons.mpr ⟨lv_neT d2_9 (a := 19) (by decide), List.forall_mem_cons.mpr ⟨lv_neT d2_10 (a := 23) (by decide), List.forall_mem_cons.mpr ⟨lv_neT d2_11 (a := 25) (by decide), List.forall_mem_cons.mpr ⟨lv_neT d2_12 (a := 27) (by decide), List.forall_mem_cons.mpr ⟨lv_neT d2_13 (a := 31) (by decide), List.forall_mem_cons.mpr ⟨lv_neT d2_14 (a := 33) (by decide), List.forall_mem_cons.mpr ⟨lv_neT d2_15 (a := 35) (by decide), List.forall_mem_cons.mpr ⟨lv_neT d2_16 (a := 37) (by decide), fun _ h9 => absurd h9 List.not_mem_nil⟩⟩⟩⟩⟩⟩⟩⟩⟩⟩⟩⟩⟩⟩⟩⟩⟩) ?_
  exact am_wk (t_Mo_readValue_211 h) ⟨Or.inr rfl, Or.inl rfl, Or.inl rfl, Or.inl rfl, trivial⟩
theorem t_Mo_readValue {x1 : Int32} {x2 : Int64} {σ σ' : am_S} {r : Int64} (h : g_Mo_readValue x1 x2 σ = some (r, σ')) : am_Mt S_m M_Mo_readValue [.ref 0, .int x1, .long x2] σ (fun q τ => q = some (.long r) ∧ τ = σ') :=
  am_M_of ok_Mo_readValue (Nat.le_of_ble_eq_true rfl) (t_Mo_readValue_0 h)
def g_Mo_readEntry_229 (go : Int32 → Int32 → Int32 → am_S → Option (Unit × am_S)) (x2 : Int32) (x3 : Int32) (x4 : Int32) (σ : am_S) : Option (Unit × am_S) :=
  go x2 x3 (x4 + 1) σ
set_option maxHeartbeats 4000000 in
theorem t_Mo_readEntry_229 {x2 : Int32} {x3 : Int32} {x4 : Int32} {σ σ' : am_S} {r : Unit} {go : Int32 → Int32 → Int32 → am_S → Option (Unit × am_S)} (hgo : ∀ {x2 : Int32} {x3 : Int32} {x4 : Int32} {σ σ' : am_S} {r : Unit}, go x2 x3 x4 σ = some (r, σ') → am_A S_m M_Mo_readEntry (120, [some (.ref 0), none, some (.int x2), some (.int x3), some (.int x4), none, none, none], [], σ) (am_r S_m (fun q τ => q = none ∧ τ = σ'))) (h : g_Mo_readEntry_229 go x2 x3 x4 σ = some (r, σ')) : am_A S_m M_Mo_readEntry (229, [some (.ref 0), none, some (.int x2), some (.int x3), some (.int x4), none, none, none], [], σ) (am_r S_m (fun q τ => q = none ∧ τ = σ')) := by
  unfold g_Mo_readEntry_229 at h
  refine a_iinc i_Mo_readEntry_229 rfl rfl ?_
  refine a_goto i_Mo_readEntry_232 ?_
  exact hgo h
def g_Mo_readEntry_235 (σ : am_S) : Option (Unit × am_S) :=
  some ((), am_fi σ 0 22 ((σ.1.1 0 22) + 1))
set_option maxHeartbeats 4000000 in
theorem t_Mo_readEntry_235 {σ σ' : am_S} {r : Unit} (h : g_Mo_readEntry_235 σ = some (r, σ')) : am_A S_m M_Mo_readEntry (235, [some (.ref 0), none, none, none, none, none, none, none], [], σ) (am_r S_m (fun q τ => q = none ∧ τ = σ')) := by
  unfold g_Mo_readEntry_235 at h
  refine a_aload_n i_Mo_readEntry_235 rfl ?_
  refine a_dup_a i_Mo_readEntry_236 ?_
  refine a_get (v := .int (σ.1.1 0 22)) i_Mo_readEntry_237 rfl rfl ?_
  refine a_iconst i_Mo_readEntry_240 ?_
  refine a_iadd i_Mo_readEntry_241 ?_
  refine a_puti i_Mo_readEntry_242 rfl trivial ?_
  exact am_ret_v ok_Mo_readEntry rfl rfl (am_lf_v h)
def g_Mo_readEntry_120 : Nat → Int32 → Int32 → Int32 → am_S → Option (Unit × am_S)
  | 0, _, _, _, _ => none
  | n + 1, x2, x3, x4, σ =>
  am_gd (inb x2 40) <|
  if x4 < ((12 * x2) + (σ.2.1 11 x2.toNatClampNeg)) then
    if (σ.1.1 0 8) = 0 then
      am_gd (inb x4 480) <|
      am_gd (inb x4 480) <|
      am_bd (g_Mo_readValue (σ.2.1 12 x4.toNatClampNeg) (σ.2.2 9 x4.toNatClampNeg) σ) fun v23 σ23 =>
      am_gd (inb x4 480) <|
      am_bd (g_Mo_known (σ23.2.2 8 x4.toNatClampNeg) σ23) fun v29 σ29 =>
      if v29 = (-1) then
        g_Mo_readEntry_229 (g_Mo_readEntry_120 n) x2 x3 x4 σ29
      else
        am_gd (inb ((11 * x3) + v29) 2200) <|
        if (σ29.2.1 20 ((11 * x3) + v29).toNatClampNeg) = 0 then
          am_gd (inb x4 480) <|
          am_gd (inb ((11 * x3) + v29) 2200) <|
          am_gd (inb ((11 * x3) + v29) 2200) <|
          g_Mo_readEntry_229 (g_Mo_readEntry_120 n) x2 x3 x4 (am_al (am_ai σ29 20 ((11 * x3) + v29).toNatClampNeg (σ29.2.1 12 x4.toNatClampNeg)) 21 ((11 * x3) + v29).toNatClampNeg v23)
        else
          g_Mo_readEntry_229 (g_Mo_readEntry_120 n) x2 x3 x4 σ29
    else
      g_Mo_readEntry_235 σ
  else
    g_Mo_readEntry_235 σ
set_option maxHeartbeats 4000000 in
theorem t_Mo_readEntry_120 : ∀ (n : Nat) {x2 : Int32} {x3 : Int32} {x4 : Int32} {σ σ' : am_S} {r : Unit} (h : g_Mo_readEntry_120 n x2 x3 x4 σ = some (r, σ')), am_A S_m M_Mo_readEntry (120, [some (.ref 0), none, some (.int x2), some (.int x3), some (.int x4), none, none, none], [], σ) (am_r S_m (fun q τ => q = none ∧ τ = σ')) := by
  intro n
  induction n with
  | zero =>
    intro x2 x3 x4 σ σ' r h
    cases h
  | succ n ih =>
  intro x2 x3 x4 σ σ' r h
  unfold g_Mo_readEntry_120 at h
  refine a_iload i_Mo_readEntry_120 rfl ?_
  refine a_bipush i_Mo_readEntry_122 ?_
  refine a_iload_n i_Mo_readEntry_124 rfl ?_
  refine a_imul i_Mo_readEntry_125 ?_
  refine a_aload_n i_Mo_readEntry_126 rfl ?_
  refine a_get (v := .ref 11) i_Mo_readEntry_127 rfl rfl ?_
  refine a_iload_n i_Mo_readEntry_130 rfl ?_
  obtain ⟨c8, h⟩ := gd_some h
  refine a_ial (n := 40) i_Mo_readEntry_131 (by decide) rfl rfl (inb_in c8) ?_
  refine a_iadd i_Mo_readEntry_132 ?_
  by_cases c10 : x4 < ((12 * x2) + (σ.2.1 11 x2.toNatClampNeg))
  · rw [if_pos c10] at h
    refine a_icf i_Mo_readEntry_133 (Int32.not_le.mpr c10) ?_
    refine a_aload_n i_Mo_readEntry_136 rfl ?_
    refine a_get (v := .int (σ.1.1 0 8)) i_Mo_readEntry_137 rfl rfl ?_
    by_cases c13 : (σ.1.1 0 8) = 0
    · rw [if_pos c13] at h
      refine a_iff i_Mo_readEntry_140 c13 ?_
      refine a_aload_n i_Mo_readEntry_143 rfl ?_
      refine a_aload_n i_Mo_readEntry_144 rfl ?_
      refine a_get (v := .ref 12) i_Mo_readEntry_145 rfl rfl ?_
      refine a_iload i_Mo_readEntry_148 rfl ?_
      obtain ⟨c18, h⟩ := gd_some h
      refine a_ial (n := 480) i_Mo_readEntry_150 (by decide) rfl rfl (inb_in c18) ?_
      refine a_aload_n i_Mo_readEntry_151 rfl ?_
      refine a_get (v := .ref 9) i_Mo_readEntry_152 rfl rfl ?_
      refine a_iload i_Mo_readEntry_155 rfl ?_
      obtain ⟨c22, h⟩ := gd_some h
      refine a_lal (n := 480) i_Mo_readEntry_157 rfl rfl (inb_in c22) ?_
      obtain ⟨v23, σ23, e23, h⟩ := am_bd_some h
      refine am_cvd (rest := []) [.int (σ.2.1 12 x4.toNatClampNeg), .long (σ.2.2 9 x4.toNatClampNeg)] c_Mo_readEntry_158 ⟨by decide, _, rfl⟩ rfl (Nat.le_of_ble_eq_true rfl) (t_Mo_readValue e23) ?_
      refine a_lstore i_Mo_readEntry_161 rfl ?_
      refine a_aload_n i_Mo_readEntry_163 rfl ?_
      refine a_get (v := .ref 8) i_Mo_readEntry_164 rfl rfl ?_
      refine a_iload i_Mo_readEntry_167 rfl ?_
      obtain ⟨c28, h⟩ := gd_some h
      refine a_lal (n := 480) i_Mo_readEntry_169 rfl rfl (inb_in c28) ?_
      obtain ⟨v29, σ29, e29, h⟩ := am_bd_some h
      refine am_csd (rest := []) [.long (σ23.2.2 8 x4.toNatClampNeg)] c_Mo_readEntry_170 rfl (Nat.le_of_ble_eq_true rfl) (t_Mo_known e29) ?_
      refine a_istore i_Mo_readEntry_173 rfl ?_
      refine a_iload i_Mo_readEntry_175 rfl ?_
      refine a_iconst i_Mo_readEntry_177 ?_
      by_cases c33 : v29 = (-1)
      · rw [if_pos c33] at h
        refine a_ict i_Mo_readEntry_178 c33 ?_
        exact am_wk (t_Mo_readEntry_229 (fun h => ih h) h) ⟨Or.inr rfl, Or.inl rfl, Or.inr rfl, Or.inr rfl, Or.inr rfl, Or.inl rfl, Or.inl rfl, Or.inl rfl, trivial⟩
      · rw [if_neg c33] at h
        refine a_icf i_Mo_readEntry_178 c33 ?_
        refine a_aload_n i_Mo_readEntry_181 rfl ?_
        refine a_get (v := .ref 20) i_Mo_readEntry_182 rfl rfl ?_
        refine a_bipush i_Mo_readEntry_185 ?_
        refine a_iload_n i_Mo_readEntry_187 rfl ?_
        refine a_imul i_Mo_readEntry_188 ?_
        refine a_iload i_Mo_readEntry_189 rfl ?_
        refine a_iadd i_Mo_readEntry_191 ?_
        obtain ⟨c41, h⟩ := gd_some h
        refine a_ial (n := 2200) i_Mo_readEntry_192 (by decide) rfl rfl (inb_in c41) ?_
        by_cases c42 : (σ29.2.1 20 ((11 * x3) + v29).toNatClampNeg) = 0
        · rw [if_pos c42] at h
          refine a_iff i_Mo_readEntry_193 c42 ?_
          refine a_aload_n i_Mo_readEntry_196 rfl ?_
          refine a_get (v := .ref 20) i_Mo_readEntry_197 rfl rfl ?_
          refine a_bipush i_Mo_readEntry_200 ?_
          refine a_iload_n i_Mo_readEntry_202 rfl ?_
          refine a_imul i_Mo_readEntry_203 ?_
          refine a_iload i_Mo_readEntry_204 rfl ?_
          refine a_iadd i_Mo_readEntry_206 ?_
          refine a_aload_n i_Mo_readEntry_207 rfl ?_
          refine a_get (v := .ref 12) i_Mo_readEntry_208 rfl rfl ?_
          refine a_iload i_Mo_readEntry_211 rfl ?_
          obtain ⟨c53, h⟩ := gd_some h
          refine a_ial (n := 480) i_Mo_readEntry_213 (by decide) rfl rfl (inb_in c53) ?_
          obtain ⟨c54, h⟩ := gd_some h
          refine a_ias (n := 2200) i_Mo_readEntry_214 rfl rfl (inb_in c54) ?_
          refine a_aload_n i_Mo_readEntry_215 rfl ?_
          refine a_get (v := .ref 21) i_Mo_readEntry_216 rfl rfl ?_
          refine a_bipush i_Mo_readEntry_219 ?_
          refine a_iload_n i_Mo_readEntry_221 rfl ?_
          refine a_imul i_Mo_readEntry_222 ?_
          refine a_iload i_Mo_readEntry_223 rfl ?_
          refine a_iadd i_Mo_readEntry_225 ?_
          refine a_lload i_Mo_readEntry_226 rfl ?_
          obtain ⟨c63, h⟩ := gd_some h
          refine a_las (n := 2200) i_Mo_readEntry_228 rfl rfl (inb_in c63) ?_
          exact am_wk (t_Mo_readEntry_229 (fun h => ih h) h) ⟨Or.inr rfl, Or.inl rfl, Or.inr rfl, Or.inr rfl, Or.inr rfl, Or.inl rfl, Or.inl rfl, Or.inl rfl, trivial⟩
        · rw [if_neg c42] at h
          refine a_ift i_Mo_readEntry_193 c42 ?_
          exact am_wk (t_Mo_readEntry_229 (fun h => ih h) h) ⟨Or.inr rfl, Or.inl rfl, Or.inr rfl, Or.inr rfl, Or.inr rfl, Or.inl rfl, Or.inl rfl, Or.inl rfl, trivial⟩
    · rw [if_neg c13] at h
      refine a_ift i_Mo_readEntry_140 c13 ?_
      exact am_wk (t_Mo_readEntry_235 h) ⟨Or.inr rfl, Or.inl rfl, Or.inl rfl, Or.inl rfl, Or.inl rfl, Or.inl rfl, Or.inl rfl, Or.inl rfl, trivial⟩
  · rw [if_neg c10] at h
    refine a_ict i_Mo_readEntry_133 (Int32.not_lt.mp c10) ?_
    exact am_wk (t_Mo_readEntry_235 h) ⟨Or.inr rfl, Or.inl rfl, Or.inl rfl, Or.inl rfl, Or.inl rfl, Or.inl rfl, Or.inl rfl, Or.inl rfl, trivial⟩
def g_Mo_readEntry_88 : Nat → Int32 → Int32 → Int32 → am_S → Option (Unit × am_S)
  | 0, _, _, _, _ => none
  | n + 1, x2, x3, x4, σ =>
  if x4 < 11 then
    am_gd (inb ((11 * x3) + x4) 2200) <|
    g_Mo_readEntry_88 n x2 x3 (x4 + 1) (am_ai σ 20 ((11 * x3) + x4).toNatClampNeg 0)
  else
    g_Mo_readEntry_120 4000 x2 x3 (12 * x2) σ
set_option maxHeartbeats 4000000 in
theorem t_Mo_readEntry_88 : ∀ (n : Nat) {x2 : Int32} {x3 : Int32} {x4 : Int32} {σ σ' : am_S} {r : Unit} (h : g_Mo_readEntry_88 n x2 x3 x4 σ = some (r, σ')), am_A S_m M_Mo_readEntry (88, [some (.ref 0), none, some (.int x2), some (.int x3), some (.int x4), none, none, none], [], σ) (am_r S_m (fun q τ => q = none ∧ τ = σ')) := by
  intro n
  induction n with
  | zero =>
    intro x2 x3 x4 σ σ' r h
    cases h
  | succ n ih =>
  intro x2 x3 x4 σ σ' r h
  unfold g_Mo_readEntry_88 at h
  refine a_iload i_Mo_readEntry_88 rfl ?_
  refine a_bipush i_Mo_readEntry_90 ?_
  by_cases c3 : x4 < 11
  · rw [if_pos c3] at h
    refine a_icf i_Mo_readEntry_92 (Int32.not_le.mpr c3) ?_
    refine a_aload_n i_Mo_readEntry_95 rfl ?_
    refine a_get (v := .ref 20) i_Mo_readEntry_96 rfl rfl ?_
    refine a_bipush i_Mo_readEntry_99 ?_
    refine a_iload_n i_Mo_readEntry_101 rfl ?_
    refine a_imul i_Mo_readEntry_102 ?_
    refine a_iload i_Mo_readEntry_103 rfl ?_
    refine a_iadd i_Mo_readEntry_105 ?_
    refine a_iconst i_Mo_readEntry_106 ?_
    obtain ⟨c12, h⟩ := gd_some h
    refine a_ias (n := 2200) i_Mo_readEntry_107 rfl rfl (inb_in c12) ?_
    refine a_iinc i_Mo_readEntry_108 rfl rfl ?_
    refine a_goto i_Mo_readEntry_111 ?_
    exact ih h
  · rw [if_neg c3] at h
    refine a_ict i_Mo_readEntry_92 (Int32.not_lt.mp c3) ?_
    refine a_bipush i_Mo_readEntry_114 ?_
    refine a_iload_n i_Mo_readEntry_116 rfl ?_
    refine a_imul i_Mo_readEntry_117 ?_
    refine a_istore i_Mo_readEntry_118 rfl ?_
    exact t_Mo_readEntry_120 4000 h
def g_Mo_readEntry_72 (x2 : Int32) (x3 : Int32) (y0 : Int32) (y1 : Int32) (σ : am_S) : Option (Unit × am_S) :=
  am_gd (inb y1 200) <|
  am_gd (inb x3 200) <|
  g_Mo_readEntry_88 4000 x2 x3 (0) (am_ai (am_ai σ 18 y1.toNatClampNeg y0) 19 x3.toNatClampNeg ((σ.1.1 0 21) - 1))
set_option maxHeartbeats 4000000 in
theorem t_Mo_readEntry_72 {x2 : Int32} {x3 : Int32} {y0 : Int32} {y1 : Int32} {σ σ' : am_S} {r : Unit} (h : g_Mo_readEntry_72 x2 x3 y0 y1 σ = some (r, σ')) : am_A S_m M_Mo_readEntry (72, [some (.ref 0), none, some (.int x2), some (.int x3), none, none, none, none], [.int y0, .int y1, .ref 18], σ) (am_r S_m (fun q τ => q = none ∧ τ = σ')) := by
  unfold g_Mo_readEntry_72 at h
  obtain ⟨c1, h⟩ := gd_some h
  refine a_ias (n := 200) i_Mo_readEntry_72 rfl rfl (inb_in c1) ?_
  refine a_aload_n i_Mo_readEntry_73 rfl ?_
  refine a_get (v := .ref 19) i_Mo_readEntry_74 rfl rfl ?_
  refine a_iload_n i_Mo_readEntry_77 rfl ?_
  refine a_aload_n i_Mo_readEntry_78 rfl ?_
  refine a_get (v := .int (σ.1.1 0 21)) i_Mo_readEntry_79 rfl rfl ?_
  refine a_iconst i_Mo_readEntry_82 ?_
  refine a_isub i_Mo_readEntry_83 ?_
  obtain ⟨c9, h⟩ := gd_some h
  refine a_ias (n := 200) i_Mo_readEntry_84 rfl rfl (inb_in c9) ?_
  refine a_iconst i_Mo_readEntry_85 ?_
  refine a_istore i_Mo_readEntry_86 rfl ?_
  exact t_Mo_readEntry_88 4000 h
def g_Mo_readEntry_43 (x2 : Int32) (x3 : Int32) (y0 : Int64) (y1 : Int32) (σ : am_S) : Option (Unit × am_S) :=
  am_gd (inb y1 200) <|
  if (σ.1.1 0 23) = 0 then
    g_Mo_readEntry_72 x2 x3 (-1) x3 (am_ai σ 17 y1.toNatClampNeg y0.toInt32)
  else
    am_gd (inb ((σ.1.1 0 23) - 1) 16) <|
    g_Mo_readEntry_72 x2 x3 ((am_ai σ 17 y1.toNatClampNeg y0.toInt32).2.1 15 ((σ.1.1 0 23) - 1).toNatClampNeg) x3 (am_ai σ 17 y1.toNatClampNeg y0.toInt32)
set_option maxHeartbeats 4000000 in
theorem t_Mo_readEntry_43 {x2 : Int32} {x3 : Int32} {y0 : Int64} {y1 : Int32} {σ σ' : am_S} {r : Unit} (h : g_Mo_readEntry_43 x2 x3 y0 y1 σ = some (r, σ')) : am_A S_m M_Mo_readEntry (43, [some (.ref 0), none, some (.int x2), some (.int x3), none, none, none, none], [.long y0, .int y1, .ref 17], σ) (am_r S_m (fun q τ => q = none ∧ τ = σ')) := by
  unfold g_Mo_readEntry_43 at h
  refine a_l2i i_Mo_readEntry_43 ?_
  obtain ⟨c2, h⟩ := gd_some h
  refine a_ias (n := 200) i_Mo_readEntry_44 rfl rfl (inb_in c2) ?_
  refine a_aload_n i_Mo_readEntry_45 rfl ?_
  refine a_get (v := .ref 18) i_Mo_readEntry_46 rfl rfl ?_
  refine a_iload_n i_Mo_readEntry_49 rfl ?_
  refine a_aload_n i_Mo_readEntry_50 rfl ?_
  refine a_get (v := .int (σ.1.1 0 23)) i_Mo_readEntry_51 rfl rfl ?_
  by_cases c8 : (σ.1.1 0 23) = 0
  · rw [if_pos c8] at h
    refine a_iff i_Mo_readEntry_54 c8 ?_
    refine a_iconst i_Mo_readEntry_57 ?_
    refine a_goto i_Mo_readEntry_58 ?_
    exact t_Mo_readEntry_72 h
  · rw [if_neg c8] at h
    refine a_ift i_Mo_readEntry_54 c8 ?_
    refine a_aload_n i_Mo_readEntry_61 rfl ?_
    refine a_get (v := .ref 15) i_Mo_readEntry_62 rfl rfl ?_
    refine a_aload_n i_Mo_readEntry_65 rfl ?_
    refine a_get (v := .int (σ.1.1 0 23)) i_Mo_readEntry_66 rfl rfl ?_
    refine a_iconst i_Mo_readEntry_69 ?_
    refine a_isub i_Mo_readEntry_70 ?_
    obtain ⟨c15, h⟩ := gd_some h
    refine a_ial (n := 16) i_Mo_readEntry_71 (by decide) rfl rfl (inb_in c15) ?_
    exact t_Mo_readEntry_72 h
def g_Mo_readEntry (x1 : Int32) (x2 : Int32) (σ : am_S) : Option (Unit × am_S) :=
  am_gd (inb (σ.1.1 0 22) 200) <|
  am_gd (inb x2 40) <|
  am_bd (g_Mo_in ((am_ai σ 16 (σ.1.1 0 22).toNatClampNeg x1).2.2 7 x2.toNatClampNeg) (0) (255) (am_ai σ 16 (σ.1.1 0 22).toNatClampNeg x1)) fun v18 σ18 =>
  if v18 = 0 then
    g_Mo_readEntry_43 x2 (σ.1.1 0 22) (0) (σ.1.1 0 22) σ18
  else
    am_gd (inb x2 40) <|
    g_Mo_readEntry_43 x2 (σ.1.1 0 22) (σ18.2.2 7 x2.toNatClampNeg) (σ.1.1 0 22) σ18
set_option maxHeartbeats 4000000 in
theorem t_Mo_readEntry_0 {x1 : Int32} {x2 : Int32} {σ σ' : am_S} {r : Unit} (h : g_Mo_readEntry x1 x2 σ = some (r, σ')) : am_A S_m M_Mo_readEntry (0, [some (.ref 0), some (.int x1), some (.int x2), none, none, none, none, none], [], σ) (am_r S_m (fun q τ => q = none ∧ τ = σ')) := by
  unfold g_Mo_readEntry at h
  refine a_aload_n i_Mo_readEntry_0 rfl ?_
  refine a_get (v := .int (σ.1.1 0 22)) i_Mo_readEntry_1 rfl rfl ?_
  refine a_istore_n i_Mo_readEntry_4 rfl ?_
  refine a_aload_n i_Mo_readEntry_5 rfl ?_
  refine a_get (v := .ref 16) i_Mo_readEntry_6 rfl rfl ?_
  refine a_iload_n i_Mo_readEntry_9 rfl ?_
  refine a_iload_n i_Mo_readEntry_10 rfl ?_
  obtain ⟨c8, h⟩ := gd_some h
  refine a_ias (n := 200) i_Mo_readEntry_11 rfl rfl (inb_in c8) ?_
  refine a_aload_n i_Mo_readEntry_12 rfl ?_
  refine a_get (v := .ref 17) i_Mo_readEntry_13 rfl rfl ?_
  refine a_iload_n i_Mo_readEntry_16 rfl ?_
  refine a_aload_n i_Mo_readEntry_17 rfl ?_
  refine a_get (v := .ref 7) i_Mo_readEntry_18 rfl rfl ?_
  refine a_iload_n i_Mo_readEntry_21 rfl ?_
  obtain ⟨c15, h⟩ := gd_some h
  refine a_lal (n := 40) i_Mo_readEntry_22 rfl rfl (inb_in c15) ?_
  refine a_lconst i_Mo_readEntry_23 ?_
  refine a_ldc2 i_Mo_readEntry_24 ?_
  obtain ⟨v18, σ18, e18, h⟩ := am_bd_some h
  refine am_csd (rest := [.int (σ.1.1 0 22), .ref 17]) [.long ((am_ai σ 16 (σ.1.1 0 22).toNatClampNeg x1).2.2 7 x2.toNatClampNeg), .long 0, .long 255] c_Mo_readEntry_27 rfl (Nat.le_of_ble_eq_true rfl) (t_Mo_in e18) ?_
  by_cases c19 : v18 = 0
  · rw [if_pos c19] at h
    refine a_ift i_Mo_readEntry_30 c19 ?_
    refine a_lconst i_Mo_readEntry_42 ?_
    exact am_wk (t_Mo_readEntry_43 h) ⟨Or.inr rfl, Or.inl rfl, Or.inr rfl, Or.inr rfl, Or.inl rfl, Or.inl rfl, Or.inl rfl, Or.inl rfl, trivial⟩
  · rw [if_neg c19] at h
    refine a_iff i_Mo_readEntry_30 c19 ?_
    refine a_aload_n i_Mo_readEntry_33 rfl ?_
    refine a_get (v := .ref 7) i_Mo_readEntry_34 rfl rfl ?_
    refine a_iload_n i_Mo_readEntry_37 rfl ?_
    obtain ⟨c23, h⟩ := gd_some h
    refine a_lal (n := 40) i_Mo_readEntry_38 rfl rfl (inb_in c23) ?_
    refine a_goto i_Mo_readEntry_39 ?_
    exact am_wk (t_Mo_readEntry_43 h) ⟨Or.inr rfl, Or.inl rfl, Or.inr rfl, Or.inr rfl, Or.inl rfl, Or.inl rfl, Or.inl rfl, Or.inl rfl, trivial⟩
theorem t_Mo_readEntry {x1 : Int32} {x2 : Int32} {σ σ' : am_S} {r : Unit} (h : g_Mo_readEntry x1 x2 σ = some (r, σ')) : am_Mt S_m M_Mo_readEntry [.ref 0, .int x1, .int x2] σ (fun q τ => q = none ∧ τ = σ') :=
  am_M_of ok_Mo_readEntry (Nat.le_of_ble_eq_true rfl) (t_Mo_readEntry_0 h)
