def g_Li_readProgram_87 (go : Int32 → am_S → Option (Int32 × am_S)) (x1 : Int32) (σ : am_S) : Option (Int32 × am_S) :=
  go (x1 + 1) σ
set_option maxHeartbeats 4000000 in
theorem t_Li_readProgram_87 {x1 : Int32} {σ σ' : am_S} {r : Int32} {go : Int32 → am_S → Option (Int32 × am_S)} (hgo : ∀ {x1 : Int32} {σ σ' : am_S} {r : Int32}, go x1 σ = some (r, σ') → am_A S_c M_Li_readProgram (6, [some (.ref 49), some (.int x1), none], [], σ) (am_r S_c (fun q τ => q = some (.int r) ∧ τ = σ'))) (h : g_Li_readProgram_87 go x1 σ = some (r, σ')) : am_A S_c M_Li_readProgram (87, [some (.ref 49), some (.int x1), none], [], σ) (am_r S_c (fun q τ => q = some (.int r) ∧ τ = σ')) := by
  unfold g_Li_readProgram_87 at h
  refine a_iinc i_Li_readProgram_87 rfl rfl ?_
  refine a_goto i_Li_readProgram_90 ?_
  exact hgo h
def g_Li_readProgram_108 (y0 : Int32) (σ : am_S) : Option (Int32 × am_S) :=
  am_gd (z01 y0) <|
  some (y0, σ)
set_option maxHeartbeats 4000000 in
theorem t_Li_readProgram_108 {y0 : Int32} {σ σ' : am_S} {r : Int32} (h : g_Li_readProgram_108 y0 σ = some (r, σ')) : am_A S_c M_Li_readProgram (108, [none, none, none], [.int y0], σ) (am_r S_c (fun q τ => q = some (.int r) ∧ τ = σ')) := by
  unfold g_Li_readProgram_108 at h
  obtain ⟨c1, h⟩ := gd_some h
  exact am_ret_z ok_Li_readProgram rfl rfl (z01_or c1) (am_lf_i h)
def g_Li_readProgram_93 (σ : am_S) : Option (Int32 × am_S) :=
  if (σ.1.1 51 3) = 0 then
    g_Li_readProgram_108 (1) σ
  else
    g_Li_readProgram_108 (0) σ
set_option maxHeartbeats 4000000 in
theorem t_Li_readProgram_93 {σ σ' : am_S} {r : Int32} (h : g_Li_readProgram_93 σ = some (r, σ')) : am_A S_c M_Li_readProgram (93, [some (.ref 49), none, none], [], σ) (am_r S_c (fun q τ => q = some (.int r) ∧ τ = σ')) := by
  unfold g_Li_readProgram_93 at h
  refine a_aload_n i_Li_readProgram_93 rfl ?_
  refine a_get (v := .ref 51) i_Li_readProgram_94 rfl rfl ?_
  refine a_get (v := .int (σ.1.1 51 3)) i_Li_readProgram_97 rfl rfl ?_
  by_cases c4 : (σ.1.1 51 3) = 0
  · rw [if_pos c4] at h
    refine a_iff i_Li_readProgram_100 c4 ?_
    refine a_iconst i_Li_readProgram_103 ?_
    refine a_goto i_Li_readProgram_104 ?_
    exact am_wk (t_Li_readProgram_108 h) ⟨Or.inl rfl, Or.inl rfl, Or.inl rfl, trivial⟩
  · rw [if_neg c4] at h
    refine a_ift i_Li_readProgram_100 c4 ?_
    refine a_iconst i_Li_readProgram_107 ?_
    exact am_wk (t_Li_readProgram_108 h) ⟨Or.inl rfl, Or.inl rfl, Or.inl rfl, trivial⟩
def g_Li_readProgram_6 : Nat → Int32 → am_S → Option (Int32 × am_S)
  | 0, _, _ => none
  | n + 1, x1, σ =>
  if x1 < 3000 then
    if (σ.1.1 51 1) < (σ.1.1 51 2) then
      if (σ.1.1 51 3) = 0 then
        am_bd (g_Cu_number 51 (1) σ) fun v18 σ18 =>
        if v18.toInt32 < (σ18.1.1 49 10) then
          if v18.toInt32 = 0 then
            am_bd (g_Li_extended σ18) fun _ σ28 =>
            g_Li_readProgram_87 (g_Li_readProgram_6 n) x1 σ28
          else
            am_bd (g_Li_standard v18.toInt32 σ18) fun _ σ29 =>
            g_Li_readProgram_87 (g_Li_readProgram_6 n) x1 σ29
        else
          am_bd (g_Li_special (v18.toInt32 - (σ18.1.1 49 10)) σ18) fun _ σ30 =>
          g_Li_readProgram_87 (g_Li_readProgram_6 n) x1 σ30
      else
        g_Li_readProgram_93 σ
    else
      g_Li_readProgram_93 σ
  else
    g_Li_readProgram_93 σ
set_option maxHeartbeats 4000000 in
theorem t_Li_readProgram_6 : ∀ (n : Nat) {x1 : Int32} {σ σ' : am_S} {r : Int32} (h : g_Li_readProgram_6 n x1 σ = some (r, σ')), am_A S_c M_Li_readProgram (6, [some (.ref 49), some (.int x1), none], [], σ) (am_r S_c (fun q τ => q = some (.int r) ∧ τ = σ')) := by
  intro n
  induction n with
  | zero =>
    intro x1 σ σ' r h
    cases h
  | succ n ih =>
  intro x1 σ σ' r h
  unfold g_Li_readProgram_6 at h
  refine a_iload_n i_Li_readProgram_6 rfl ?_
  refine a_sipush i_Li_readProgram_7 ?_
  by_cases c3 : x1 < 3000
  · rw [if_pos c3] at h
    refine a_icf i_Li_readProgram_10 (Int32.not_le.mpr c3) ?_
    refine a_aload_n i_Li_readProgram_13 rfl ?_
    refine a_get (v := .ref 51) i_Li_readProgram_14 rfl rfl ?_
    refine a_get (v := .int (σ.1.1 51 1)) i_Li_readProgram_17 rfl rfl ?_
    refine a_aload_n i_Li_readProgram_20 rfl ?_
    refine a_get (v := .ref 51) i_Li_readProgram_21 rfl rfl ?_
    refine a_get (v := .int (σ.1.1 51 2)) i_Li_readProgram_24 rfl rfl ?_
    by_cases c10 : (σ.1.1 51 1) < (σ.1.1 51 2)
    · rw [if_pos c10] at h
      refine a_icf i_Li_readProgram_27 (Int32.not_le.mpr c10) ?_
      refine a_aload_n i_Li_readProgram_30 rfl ?_
      refine a_get (v := .ref 51) i_Li_readProgram_31 rfl rfl ?_
      refine a_get (v := .int (σ.1.1 51 3)) i_Li_readProgram_34 rfl rfl ?_
      by_cases c14 : (σ.1.1 51 3) = 0
      · rw [if_pos c14] at h
        refine a_iff i_Li_readProgram_37 c14 ?_
        refine a_aload_n i_Li_readProgram_40 rfl ?_
        refine a_get (v := .ref 51) i_Li_readProgram_41 rfl rfl ?_
        refine a_iconst i_Li_readProgram_44 ?_
        obtain ⟨v18, σ18, e18, h⟩ := am_bd_some h
        refine am_cvd (rest := []) [.int 1] c_Li_readProgram_45 ⟨by decide, _, rfl⟩ rfl (Nat.le_of_ble_eq_true rfl) (t_Cu_number cu_51 e18) ?_
        refine a_l2i i_Li_readProgram_48 ?_
        refine a_istore_n i_Li_readProgram_49 rfl ?_
        refine a_iload_n i_Li_readProgram_50 rfl ?_
        refine a_aload_n i_Li_readProgram_51 rfl ?_
        refine a_get (v := .int (σ18.1.1 49 10)) i_Li_readProgram_52 rfl rfl ?_
        by_cases c24 : v18.toInt32 < (σ18.1.1 49 10)
        · rw [if_pos c24] at h
          refine a_ict i_Li_readProgram_55 c24 ?_
          refine a_iload_n i_Li_readProgram_71 rfl ?_
          by_cases c26 : v18.toInt32 = 0
          · rw [if_pos c26] at h
            refine a_iff i_Li_readProgram_72 c26 ?_
            refine a_aload_n i_Li_readProgram_75 rfl ?_
            obtain ⟨v28, σ28, e28, h⟩ := am_bd_some h
            refine am_cvd (rest := []) [] c_Li_readProgram_76 ⟨by decide, _, rfl⟩ rfl (Nat.le_of_ble_eq_true rfl) (t_Li_extended e28) ?_
            refine a_goto i_Li_readProgram_79 ?_
            exact am_wk (t_Li_readProgram_87 (fun h => ih h) h) ⟨Or.inr rfl, Or.inr rfl, Or.inl rfl, trivial⟩
          · rw [if_neg c26] at h
            refine a_ift i_Li_readProgram_72 c26 ?_
            refine a_aload_n i_Li_readProgram_82 rfl ?_
            refine a_iload_n i_Li_readProgram_83 rfl ?_
            obtain ⟨v29, σ29, e29, h⟩ := am_bd_some h
            refine am_cvd (rest := []) [.int v18.toInt32] c_Li_readProgram_84 ⟨by decide, _, rfl⟩ rfl (Nat.le_of_ble_eq_true rfl) (t_Li_standard e29) ?_
            exact am_wk (t_Li_readProgram_87 (fun h => ih h) h) ⟨Or.inr rfl, Or.inr rfl, Or.inl rfl, trivial⟩
        · rw [if_neg c24] at h
          refine a_icf i_Li_readProgram_55 c24 ?_
          refine a_aload_n i_Li_readProgram_58 rfl ?_
          refine a_iload_n i_Li_readProgram_59 rfl ?_
          refine a_aload_n i_Li_readProgram_60 rfl ?_
          refine a_get (v := .int (σ18.1.1 49 10)) i_Li_readProgram_61 rfl rfl ?_
          refine a_isub i_Li_readProgram_64 ?_
          obtain ⟨v30, σ30, e30, h⟩ := am_bd_some h
          refine am_cvd (rest := []) [.int (v18.toInt32 - (σ18.1.1 49 10))] c_Li_readProgram_65 ⟨by decide, _, rfl⟩ rfl (Nat.le_of_ble_eq_true rfl) (t_Li_special e30) ?_
          refine a_goto i_Li_readProgram_68 ?_
          exact am_wk (t_Li_readProgram_87 (fun h => ih h) h) ⟨Or.inr rfl, Or.inr rfl, Or.inl rfl, trivial⟩
      · rw [if_neg c14] at h
        refine a_ift i_Li_readProgram_37 c14 ?_
        exact am_wk (t_Li_readProgram_93 h) ⟨Or.inr rfl, Or.inl rfl, Or.inl rfl, trivial⟩
    · rw [if_neg c10] at h
      refine a_ict i_Li_readProgram_27 (Int32.not_lt.mp c10) ?_
      exact am_wk (t_Li_readProgram_93 h) ⟨Or.inr rfl, Or.inl rfl, Or.inl rfl, trivial⟩
  · rw [if_neg c3] at h
    refine a_ict i_Li_readProgram_10 (Int32.not_lt.mp c3) ?_
    exact am_wk (t_Li_readProgram_93 h) ⟨Or.inr rfl, Or.inl rfl, Or.inl rfl, trivial⟩
def g_Li_readProgram (σ : am_S) : Option (Int32 × am_S) :=
  am_bd (g_Li_restart σ) fun _ σ2 =>
  g_Li_readProgram_6 4000 (0) σ2
set_option maxHeartbeats 4000000 in
theorem t_Li_readProgram_0 {σ σ' : am_S} {r : Int32} (h : g_Li_readProgram σ = some (r, σ')) : am_A S_c M_Li_readProgram (0, [some (.ref 49), none, none], [], σ) (am_r S_c (fun q τ => q = some (.int r) ∧ τ = σ')) := by
  unfold g_Li_readProgram at h
  refine a_aload_n i_Li_readProgram_0 rfl ?_
  obtain ⟨v2, σ2, e2, h⟩ := am_bd_some h
  refine am_cvd (rest := []) [] c_Li_readProgram_1 ⟨by decide, _, rfl⟩ rfl (Nat.le_of_ble_eq_true rfl) (t_Li_restart e2) ?_
  refine a_iconst i_Li_readProgram_4 ?_
  refine a_istore_n i_Li_readProgram_5 rfl ?_
  exact t_Li_readProgram_6 4000 h
theorem t_Li_readProgram {σ σ' : am_S} {r : Int32} (h : g_Li_readProgram σ = some (r, σ')) : am_Mt S_c M_Li_readProgram [.ref 49] σ (fun q τ => q = some (.int r) ∧ τ = σ') :=
  am_M_of ok_Li_readProgram (Nat.le_of_ble_eq_true rfl) (t_Li_readProgram_0 h)
def g_Li_readTable_56 (σ : am_S) : Option (Int32 × am_S) :=
  some (0, σ)
set_option maxHeartbeats 4000000 in
theorem t_Li_readTable_56 {σ σ' : am_S} {r : Int32} (h : g_Li_readTable_56 σ = some (r, σ')) : am_A S_c M_Li_readTable (56, [none, none, none, none, none, none, none, none, none, none, none], [], σ) (am_r S_c (fun q τ => q = some (.int r) ∧ τ = σ')) := by
  unfold g_Li_readTable_56 at h
  refine a_iconst i_Li_readTable_56 ?_
  exact am_ret_z ok_Li_readTable rfl rfl (Or.inl rfl) (am_lf_i h)
def g_Li_readTable_119 (σ : am_S) : Option (Int32 × am_S) :=
  some (0, σ)
set_option maxHeartbeats 4000000 in
theorem t_Li_readTable_119 {σ σ' : am_S} {r : Int32} (h : g_Li_readTable_119 σ = some (r, σ')) : am_A S_c M_Li_readTable (119, [none, none, none, none, none, none, none, none, none, none, none], [], σ) (am_r S_c (fun q τ => q = some (.int r) ∧ τ = σ')) := by
  unfold g_Li_readTable_119 at h
  refine a_iconst i_Li_readTable_119 ?_
  exact am_ret_z ok_Li_readTable rfl rfl (Or.inl rfl) (am_lf_i h)
def g_Li_readTable_209 (σ : am_S) : Option (Int32 × am_S) :=
  some (0, σ)
set_option maxHeartbeats 4000000 in
theorem t_Li_readTable_209 {σ σ' : am_S} {r : Int32} (h : g_Li_readTable_209 σ = some (r, σ')) : am_A S_c M_Li_readTable (209, [none, none, none, none, none, none, none, none, none, none, none], [], σ) (am_r S_c (fun q τ => q = some (.int r) ∧ τ = σ')) := by
  unfold g_Li_readTable_209 at h
  refine a_iconst i_Li_readTable_209 ?_
  exact am_ret_z ok_Li_readTable rfl rfl (Or.inl rfl) (am_lf_i h)
def g_Li_readTable_174 (x8 : Int64) (y0 : Int32) (σ : am_S) : Option (Int32 × am_S) :=
  if y0 = 0 then
    g_Li_readTable_209 σ
  else
    if (lg_cmp x8 ((σ.1.1 51 1).toInt64)) < 0 then
      g_Li_readTable_209 σ
    else
      if 0 < (lg_cmp x8 ((σ.1.1 51 2).toInt64)) then
        g_Li_readTable_209 σ
      else
        am_bd (g_Li_readProgram (am_fi σ 51 1 x8.toInt32)) fun v24 σ24 =>
        am_gd (z01 v24) <|
        some (v24, σ24)
set_option maxHeartbeats 4000000 in
theorem t_Li_readTable_174 {x8 : Int64} {y0 : Int32} {σ σ' : am_S} {r : Int32} (h : g_Li_readTable_174 x8 y0 σ = some (r, σ')) : am_A S_c M_Li_readTable (174, [some (.ref 49), none, none, none, none, none, none, none, some (.long x8), none, none], [.int y0], σ) (am_r S_c (fun q τ => q = some (.int r) ∧ τ = σ')) := by
  unfold g_Li_readTable_174 at h
  refine a_istore i_Li_readTable_174 rfl ?_
  refine a_iload i_Li_readTable_176 rfl ?_
  by_cases c3 : y0 = 0
  · rw [if_pos c3] at h
    refine a_ift i_Li_readTable_178 c3 ?_
    exact am_wk (t_Li_readTable_209 h) ⟨Or.inl rfl, Or.inl rfl, Or.inl rfl, Or.inl rfl, Or.inl rfl, Or.inl rfl, Or.inl rfl, Or.inl rfl, Or.inl rfl, Or.inl rfl, Or.inl rfl, trivial⟩
  · rw [if_neg c3] at h
    refine a_iff i_Li_readTable_178 c3 ?_
    refine a_lload i_Li_readTable_181 rfl ?_
    refine a_aload_n i_Li_readTable_183 rfl ?_
    refine a_get (v := .ref 51) i_Li_readTable_184 rfl rfl ?_
    refine a_get (v := .int (σ.1.1 51 1)) i_Li_readTable_187 rfl rfl ?_
    refine a_i2l i_Li_readTable_190 ?_
    refine a_lcmp i_Li_readTable_191 ?_
    by_cases c10 : (lg_cmp x8 ((σ.1.1 51 1).toInt64)) < 0
    · rw [if_pos c10] at h
      refine a_ift i_Li_readTable_192 c10 ?_
      exact am_wk (t_Li_readTable_209 h) ⟨Or.inl rfl, Or.inl rfl, Or.inl rfl, Or.inl rfl, Or.inl rfl, Or.inl rfl, Or.inl rfl, Or.inl rfl, Or.inl rfl, Or.inl rfl, Or.inl rfl, trivial⟩
    · rw [if_neg c10] at h
      refine a_iff i_Li_readTable_192 c10 ?_
      refine a_lload i_Li_readTable_195 rfl ?_
      refine a_aload_n i_Li_readTable_197 rfl ?_
      refine a_get (v := .ref 51) i_Li_readTable_198 rfl rfl ?_
      refine a_get (v := .int (σ.1.1 51 2)) i_Li_readTable_201 rfl rfl ?_
      refine a_i2l i_Li_readTable_204 ?_
      refine a_lcmp i_Li_readTable_205 ?_
      by_cases c17 : 0 < (lg_cmp x8 ((σ.1.1 51 2).toInt64))
      · rw [if_pos c17] at h
        refine a_iff i_Li_readTable_206 (Int32.not_le.mpr c17) ?_
        exact am_wk (t_Li_readTable_209 h) ⟨Or.inl rfl, Or.inl rfl, Or.inl rfl, Or.inl rfl, Or.inl rfl, Or.inl rfl, Or.inl rfl, Or.inl rfl, Or.inl rfl, Or.inl rfl, Or.inl rfl, trivial⟩
      · rw [if_neg c17] at h
        refine a_ift i_Li_readTable_206 (Int32.not_lt.mp c17) ?_
        refine a_aload_n i_Li_readTable_211 rfl ?_
        refine a_get (v := .ref 51) i_Li_readTable_212 rfl rfl ?_
        refine a_lload i_Li_readTable_215 rfl ?_
        refine a_l2i i_Li_readTable_217 ?_
        refine a_puti i_Li_readTable_218 rfl trivial ?_
        refine a_aload_n i_Li_readTable_221 rfl ?_
        obtain ⟨v24, σ24, e24, h⟩ := am_bd_some h
        refine am_cvd (rest := []) [] c_Li_readTable_222 ⟨by decide, _, rfl⟩ rfl (Nat.le_of_ble_eq_true rfl) (t_Li_readProgram e24) ?_
        obtain ⟨c25, h⟩ := gd_some h
        exact am_ret_z ok_Li_readTable rfl rfl (z01_or c25) (am_lf_i h)
def g_Li_readTable_173 (x8 : Int64) (σ : am_S) : Option (Int32 × am_S) :=
  g_Li_readTable_174 x8 (0) σ
set_option maxHeartbeats 4000000 in
theorem t_Li_readTable_173 {x8 : Int64} {σ σ' : am_S} {r : Int32} (h : g_Li_readTable_173 x8 σ = some (r, σ')) : am_A S_c M_Li_readTable (173, [some (.ref 49), none, none, none, none, none, none, none, some (.long x8), none, none], [], σ) (am_r S_c (fun q τ => q = some (.int r) ∧ τ = σ')) := by
  unfold g_Li_readTable_173 at h
  refine a_iconst i_Li_readTable_173 ?_
  exact t_Li_readTable_174 h
def g_Li_readTable (x1 : Int32) (x2 : Int64) (σ : am_S) : Option (Int32 × am_S) :=
  am_bd (g_Se_point 51 (7) x2 σ) fun _ σ7 =>
  am_bd (g_Cu_number 51 (4) σ7) fun v11 σ11 =>
  if (σ11.1.1 51 3) = 0 then
    if 0 < (lg_cmp v11 (((σ11.1.1 51 2) - (σ11.1.1 51 1)).toInt64)) then
      g_Li_readTable_56 σ11
    else
      am_bd (g_Cu_number 51 (2) (am_fi σ11 51 2 ((σ11.1.1 51 1) + v11.toInt32))) fun v40 σ40 =>
      if (lg_cmp v40 5) = 0 then
        am_bd (g_Cu_number 51 (1) σ40) fun v47 σ47 =>
        if (lg_cmp v47 8) = 0 then
          am_bd (g_Cu_number 51 (1) σ47) fun v54 σ54 =>
          if (lg_cmp v54 0) = 0 then
            am_bd (g_Cu_number 51 (4) σ54) fun v61 σ61 =>
            am_bd (g_Li_readHead σ61) fun v71 σ71 =>
            if v71 = 0 then
              g_Li_readTable_173 (((σ61.1.1 51 1).toInt64) + v61) σ71
            else
              am_bd (g_Li_readNames x1 (0) σ71) fun v76 σ76 =>
              if v76 = 0 then
                g_Li_readTable_173 (((σ61.1.1 51 1).toInt64) + v61) σ76
              else
                am_bd (g_Li_readNames x1 (1) σ76) fun v81 σ81 =>
                if v81 = 0 then
                  g_Li_readTable_173 (((σ61.1.1 51 1).toInt64) + v61) σ81
                else
                  g_Li_readTable_174 (((σ61.1.1 51 1).toInt64) + v61) (1) σ81
          else
            g_Li_readTable_119 σ54
        else
          g_Li_readTable_119 σ47
      else
        g_Li_readTable_119 σ40
  else
    g_Li_readTable_56 σ11
set_option maxHeartbeats 4000000 in
theorem t_Li_readTable_0 {x1 : Int32} {x2 : Int64} {σ σ' : am_S} {r : Int32} (h : g_Li_readTable x1 x2 σ = some (r, σ')) : am_A S_c M_Li_readTable (0, [some (.ref 49), some (.int x1), some (.long x2), none, none, none, none, none, none, none, none], [], σ) (am_r S_c (fun q τ => q = some (.int r) ∧ τ = σ')) := by
  unfold g_Li_readTable at h
  refine a_aload_n i_Li_readTable_0 rfl ?_
  refine a_get (v := .ref 2) i_Li_readTable_1 rfl rfl ?_
  refine a_aload_n i_Li_readTable_4 rfl ?_
  refine a_get (v := .ref 51) i_Li_readTable_5 rfl rfl ?_
  refine a_bipush i_Li_readTable_8 ?_
  refine a_lload_n i_Li_readTable_10 rfl ?_
  obtain ⟨v7, σ7, e7, h⟩ := am_bd_some h
  refine am_cvd (rest := []) [.ref 51, .int 7, .long x2] c_Li_readTable_11 ⟨by decide, _, rfl⟩ rfl (Nat.le_of_ble_eq_true rfl) (t_Se_point cu_51 e7) ?_
  refine a_aload_n i_Li_readTable_14 rfl ?_
  refine a_get (v := .ref 51) i_Li_readTable_15 rfl rfl ?_
  refine a_iconst i_Li_readTable_18 ?_
  obtain ⟨v11, σ11, e11, h⟩ := am_bd_some h
  refine am_cvd (rest := []) [.int 4] c_Li_readTable_19 ⟨by decide, _, rfl⟩ rfl (Nat.le_of_ble_eq_true rfl) (t_Cu_number cu_51 e11) ?_
  refine a_lstore i_Li_readTable_22 rfl ?_
  refine a_aload_n i_Li_readTable_24 rfl ?_
  refine a_get (v := .ref 51) i_Li_readTable_25 rfl rfl ?_
  refine a_get (v := .int (σ11.1.1 51 3)) i_Li_readTable_28 rfl rfl ?_
  by_cases c16 : (σ11.1.1 51 3) = 0
  · rw [if_pos c16] at h
    refine a_iff i_Li_readTable_31 c16 ?_
    refine a_lload i_Li_readTable_34 rfl ?_
    refine a_aload_n i_Li_readTable_36 rfl ?_
    refine a_get (v := .ref 51) i_Li_readTable_37 rfl rfl ?_
    refine a_get (v := .int (σ11.1.1 51 2)) i_Li_readTable_40 rfl rfl ?_
    refine a_aload_n i_Li_readTable_43 rfl ?_
    refine a_get (v := .ref 51) i_Li_readTable_44 rfl rfl ?_
    refine a_get (v := .int (σ11.1.1 51 1)) i_Li_readTable_47 rfl rfl ?_
    refine a_isub i_Li_readTable_50 ?_
    refine a_i2l i_Li_readTable_51 ?_
    refine a_lcmp i_Li_readTable_52 ?_
    by_cases c27 : 0 < (lg_cmp v11 (((σ11.1.1 51 2) - (σ11.1.1 51 1)).toInt64))
    · rw [if_pos c27] at h
      refine a_iff i_Li_readTable_53 (Int32.not_le.mpr c27) ?_
      exact am_wk (t_Li_readTable_56 h) ⟨Or.inl rfl, Or.inl rfl, Or.inl rfl, Or.inl rfl, Or.inl rfl, Or.inl rfl, Or.inl rfl, Or.inl rfl, Or.inl rfl, Or.inl rfl, Or.inl rfl, trivial⟩
    · rw [if_neg c27] at h
      refine a_ift i_Li_readTable_53 (Int32.not_lt.mp c27) ?_
      refine a_aload_n i_Li_readTable_58 rfl ?_
      refine a_get (v := .ref 51) i_Li_readTable_59 rfl rfl ?_
      refine a_aload_n i_Li_readTable_62 rfl ?_
      refine a_get (v := .ref 51) i_Li_readTable_63 rfl rfl ?_
      refine a_get (v := .int (σ11.1.1 51 1)) i_Li_readTable_66 rfl rfl ?_
      refine a_lload i_Li_readTable_69 rfl ?_
      refine a_l2i i_Li_readTable_71 ?_
      refine a_iadd i_Li_readTable_72 ?_
      refine a_puti i_Li_readTable_73 rfl trivial ?_
      refine a_aload_n i_Li_readTable_76 rfl ?_
      refine a_get (v := .ref 51) i_Li_readTable_77 rfl rfl ?_
      refine a_iconst i_Li_readTable_80 ?_
      obtain ⟨v40, σ40, e40, h⟩ := am_bd_some h
      refine am_cvd (rest := []) [.int 2] c_Li_readTable_81 ⟨by decide, _, rfl⟩ rfl (Nat.le_of_ble_eq_true rfl) (t_Cu_number cu_51 e40) ?_
      refine a_ldc2 i_Li_readTable_84 ?_
      refine a_lcmp i_Li_readTable_87 ?_
      by_cases c43 : (lg_cmp v40 5) = 0
      · rw [if_pos c43] at h
        refine a_iff i_Li_readTable_88 c43 ?_
        refine a_aload_n i_Li_readTable_91 rfl ?_
        refine a_get (v := .ref 51) i_Li_readTable_92 rfl rfl ?_
        refine a_iconst i_Li_readTable_95 ?_
        obtain ⟨v47, σ47, e47, h⟩ := am_bd_some h
        refine am_cvd (rest := []) [.int 1] c_Li_readTable_96 ⟨by decide, _, rfl⟩ rfl (Nat.le_of_ble_eq_true rfl) (t_Cu_number cu_51 e47) ?_
        refine a_ldc2 i_Li_readTable_99 ?_
        refine a_lcmp i_Li_readTable_102 ?_
        by_cases c50 : (lg_cmp v47 8) = 0
        · rw [if_pos c50] at h
          refine a_iff i_Li_readTable_103 c50 ?_
          refine a_aload_n i_Li_readTable_106 rfl ?_
          refine a_get (v := .ref 51) i_Li_readTable_107 rfl rfl ?_
          refine a_iconst i_Li_readTable_110 ?_
          obtain ⟨v54, σ54, e54, h⟩ := am_bd_some h
          refine am_cvd (rest := []) [.int 1] c_Li_readTable_111 ⟨by decide, _, rfl⟩ rfl (Nat.le_of_ble_eq_true rfl) (t_Cu_number cu_51 e54) ?_
          refine a_lconst i_Li_readTable_114 ?_
          refine a_lcmp i_Li_readTable_115 ?_
          by_cases c57 : (lg_cmp v54 0) = 0
          · rw [if_pos c57] at h
            refine a_ift i_Li_readTable_116 c57 ?_
            refine a_aload_n i_Li_readTable_121 rfl ?_
            refine a_get (v := .ref 51) i_Li_readTable_122 rfl rfl ?_
            refine a_iconst i_Li_readTable_125 ?_
            obtain ⟨v61, σ61, e61, h⟩ := am_bd_some h
            refine am_cvd (rest := []) [.int 4] c_Li_readTable_126 ⟨by decide, _, rfl⟩ rfl (Nat.le_of_ble_eq_true rfl) (t_Cu_number cu_51 e61) ?_
            refine a_lstore i_Li_readTable_129 rfl ?_
            refine a_aload_n i_Li_readTable_131 rfl ?_
            refine a_get (v := .ref 51) i_Li_readTable_132 rfl rfl ?_
            refine a_get (v := .int (σ61.1.1 51 1)) i_Li_readTable_135 rfl rfl ?_
            refine a_i2l i_Li_readTable_138 ?_
            refine a_lload i_Li_readTable_139 rfl ?_
            refine a_ladd i_Li_readTable_141 ?_
            refine a_lstore i_Li_readTable_142 rfl ?_
            refine a_aload_n i_Li_readTable_144 rfl ?_
            obtain ⟨v71, σ71, e71, h⟩ := am_bd_some h
            refine am_cvd (rest := []) [] c_Li_readTable_145 ⟨by decide, _, rfl⟩ rfl (Nat.le_of_ble_eq_true rfl) (t_Li_readHead e71) ?_
            by_cases c72 : v71 = 0
            · rw [if_pos c72] at h
              refine a_ift i_Li_readTable_148 c72 ?_
              exact am_wk (t_Li_readTable_173 h) ⟨Or.inr rfl, Or.inl rfl, Or.inl rfl, Or.inl rfl, Or.inl rfl, Or.inl rfl, Or.inl rfl, Or.inl rfl, Or.inr rfl, Or.inl rfl, Or.inl rfl, trivial⟩
            · rw [if_neg c72] at h
              refine a_iff i_Li_readTable_148 c72 ?_
              refine a_aload_n i_Li_readTable_151 rfl ?_
              refine a_iload_n i_Li_readTable_152 rfl ?_
              refine a_iconst i_Li_readTable_153 ?_
              obtain ⟨v76, σ76, e76, h⟩ := am_bd_some h
              refine am_cvd (rest := []) [.int x1, .int 0] c_Li_readTable_154 ⟨by decide, _, rfl⟩ rfl (Nat.le_of_ble_eq_true rfl) (t_Li_readNames e76) ?_
              by_cases c77 : v76 = 0
              · rw [if_pos c77] at h
                refine a_ift i_Li_readTable_157 c77 ?_
                exact am_wk (t_Li_readTable_173 h) ⟨Or.inr rfl, Or.inl rfl, Or.inl rfl, Or.inl rfl, Or.inl rfl, Or.inl rfl, Or.inl rfl, Or.inl rfl, Or.inr rfl, Or.inl rfl, Or.inl rfl, trivial⟩
              · rw [if_neg c77] at h
                refine a_iff i_Li_readTable_157 c77 ?_
                refine a_aload_n i_Li_readTable_160 rfl ?_
                refine a_iload_n i_Li_readTable_161 rfl ?_
                refine a_iconst i_Li_readTable_162 ?_
                obtain ⟨v81, σ81, e81, h⟩ := am_bd_some h
                refine am_cvd (rest := []) [.int x1, .int 1] c_Li_readTable_163 ⟨by decide, _, rfl⟩ rfl (Nat.le_of_ble_eq_true rfl) (t_Li_readNames e81) ?_
                by_cases c82 : v81 = 0
                · rw [if_pos c82] at h
                  refine a_ift i_Li_readTable_166 c82 ?_
                  exact am_wk (t_Li_readTable_173 h) ⟨Or.inr rfl, Or.inl rfl, Or.inl rfl, Or.inl rfl, Or.inl rfl, Or.inl rfl, Or.inl rfl, Or.inl rfl, Or.inr rfl, Or.inl rfl, Or.inl rfl, trivial⟩
                · rw [if_neg c82] at h
                  refine a_iff i_Li_readTable_166 c82 ?_
                  refine a_iconst i_Li_readTable_169 ?_
                  refine a_goto i_Li_readTable_170 ?_
                  exact am_wk (t_Li_readTable_174 h) ⟨Or.inr rfl, Or.inl rfl, Or.inl rfl, Or.inl rfl, Or.inl rfl, Or.inl rfl, Or.inl rfl, Or.inl rfl, Or.inr rfl, Or.inl rfl, Or.inl rfl, trivial⟩
          · rw [if_neg c57] at h
            refine a_iff i_Li_readTable_116 c57 ?_
            exact am_wk (t_Li_readTable_119 h) ⟨Or.inl rfl, Or.inl rfl, Or.inl rfl, Or.inl rfl, Or.inl rfl, Or.inl rfl, Or.inl rfl, Or.inl rfl, Or.inl rfl, Or.inl rfl, Or.inl rfl, trivial⟩
        · rw [if_neg c50] at h
          refine a_ift i_Li_readTable_103 c50 ?_
          exact am_wk (t_Li_readTable_119 h) ⟨Or.inl rfl, Or.inl rfl, Or.inl rfl, Or.inl rfl, Or.inl rfl, Or.inl rfl, Or.inl rfl, Or.inl rfl, Or.inl rfl, Or.inl rfl, Or.inl rfl, trivial⟩
      · rw [if_neg c43] at h
        refine a_ift i_Li_readTable_88 c43 ?_
        exact am_wk (t_Li_readTable_119 h) ⟨Or.inl rfl, Or.inl rfl, Or.inl rfl, Or.inl rfl, Or.inl rfl, Or.inl rfl, Or.inl rfl, Or.inl rfl, Or.inl rfl, Or.inl rfl, Or.inl rfl, trivial⟩
  · rw [if_neg c16] at h
    refine a_ift i_Li_readTable_31 c16 ?_
    exact am_wk (t_Li_readTable_56 h) ⟨Or.inl rfl, Or.inl rfl, Or.inl rfl, Or.inl rfl, Or.inl rfl, Or.inl rfl, Or.inl rfl, Or.inl rfl, Or.inl rfl, Or.inl rfl, Or.inl rfl, trivial⟩
theorem t_Li_readTable {x1 : Int32} {x2 : Int64} {σ σ' : am_S} {r : Int32} (h : g_Li_readTable x1 x2 σ = some (r, σ')) : am_Mt S_c M_Li_readTable [.ref 49, .int x1, .long x2] σ (fun q τ => q = some (.int r) ∧ τ = σ') :=
  am_M_of ok_Li_readTable (Nat.le_of_ble_eq_true rfl) (t_Li_readTable_0 h)
def g_Li_read_65 (go : Int32 → am_S → Option (Int32 × am_S)) (x1 : Int32) (σ : am_S) : Option (Int32 × am_S) :=
  am_bd (g_Ro_end x1 σ) fun _ σ4 =>
  go (x1 + 1) σ4
set_option maxHeartbeats 4000000 in
theorem t_Li_read_65 {x1 : Int32} {σ σ' : am_S} {r : Int32} {go : Int32 → am_S → Option (Int32 × am_S)} (hgo : ∀ {x1 : Int32} {σ σ' : am_S} {r : Int32}, go x1 σ = some (r, σ') → am_A S_c M_Li_read (9, [some (.ref 49), some (.int x1), none], [], σ) (am_r S_c (fun q τ => q = some (.int r) ∧ τ = σ'))) (h : g_Li_read_65 go x1 σ = some (r, σ')) : am_A S_c M_Li_read (65, [some (.ref 49), some (.int x1), none], [], σ) (am_r S_c (fun q τ => q = some (.int r) ∧ τ = σ')) := by
  unfold g_Li_read_65 at h
  refine a_aload_n i_Li_read_65 rfl ?_
  refine a_get (v := .ref 40) i_Li_read_66 rfl rfl ?_
  refine a_iload_n i_Li_read_69 rfl ?_
  obtain ⟨v4, σ4, e4, h⟩ := am_bd_some h
  refine am_cvd (rest := []) [.int x1] c_Li_read_70 ⟨by decide, _, rfl⟩ rfl (Nat.le_of_ble_eq_true rfl) (t_Ro_end e4) ?_
  refine a_iinc i_Li_read_73 rfl rfl ?_
  refine a_goto i_Li_read_76 ?_
  exact hgo h
def g_Li_read_9 : Nat → Int32 → am_S → Option (Int32 × am_S)
  | 0, _, _ => none
  | n + 1, x1, σ =>
  if x1 < (σ.1.1 10 11) then
    am_bd (g_Ro_begin x1 σ) fun _ σ9 =>
    am_gd (inb ((x1 * 4) + 0) 16) <|
    if (σ9.2.1 19 ((x1 * 4) + 0).toNatClampNeg) = 0 then
      g_Li_read_65 (g_Li_read_9 n) x1 σ9
    else
      am_gd (inb ((x1 * 4) + 0) 16) <|
      am_bd (g_Li_readTable x1 (σ9.2.2 20 ((x1 * 4) + 0).toNatClampNeg) σ9) fun v29 σ29 =>
      if v29 = 0 then
        some (0, σ29)
      else
        g_Li_read_65 (g_Li_read_9 n) x1 σ29
  else
    some (1, σ)
set_option maxHeartbeats 4000000 in
theorem t_Li_read_9 : ∀ (n : Nat) {x1 : Int32} {σ σ' : am_S} {r : Int32} (h : g_Li_read_9 n x1 σ = some (r, σ')), am_A S_c M_Li_read (9, [some (.ref 49), some (.int x1), none], [], σ) (am_r S_c (fun q τ => q = some (.int r) ∧ τ = σ')) := by
  intro n
  induction n with
  | zero =>
    intro x1 σ σ' r h
    cases h
  | succ n ih =>
  intro x1 σ σ' r h
  unfold g_Li_read_9 at h
  refine a_iload_n i_Li_read_9 rfl ?_
  refine a_aload_n i_Li_read_10 rfl ?_
  refine a_get (v := .ref 10) i_Li_read_11 rfl rfl ?_
  refine a_get (v := .int (σ.1.1 10 11)) i_Li_read_14 rfl rfl ?_
  by_cases c5 : x1 < (σ.1.1 10 11)
  · rw [if_pos c5] at h
    refine a_icf i_Li_read_17 (Int32.not_le.mpr c5) ?_
    refine a_aload_n i_Li_read_20 rfl ?_
    refine a_get (v := .ref 40) i_Li_read_21 rfl rfl ?_
    refine a_iload_n i_Li_read_24 rfl ?_
    obtain ⟨v9, σ9, e9, h⟩ := am_bd_some h
    refine am_cvd (rest := []) [.int x1] c_Li_read_25 ⟨by decide, _, rfl⟩ rfl (Nat.le_of_ble_eq_true rfl) (t_Ro_begin e9) ?_
    refine a_iload_n i_Li_read_28 rfl ?_
    refine a_iconst i_Li_read_29 ?_
    refine a_imul i_Li_read_30 ?_
    refine a_iconst i_Li_read_31 ?_
    refine a_iadd i_Li_read_32 ?_
    refine a_istore_n i_Li_read_33 rfl ?_
    refine a_aload_n i_Li_read_34 rfl ?_
    refine a_get (v := .ref 10) i_Li_read_35 rfl rfl ?_
    refine a_get (v := .ref 19) i_Li_read_38 rfl rfl ?_
    refine a_iload_n i_Li_read_41 rfl ?_
    obtain ⟨c20, h⟩ := gd_some h
    refine a_ial (n := 16) i_Li_read_42 (by decide) rfl rfl (inb_in c20) ?_
    by_cases c21 : (σ9.2.1 19 ((x1 * 4) + 0).toNatClampNeg) = 0
    · rw [if_pos c21] at h
      refine a_ift i_Li_read_43 c21 ?_
      exact am_wk (t_Li_read_65 (fun h => ih h) h) ⟨Or.inr rfl, Or.inr rfl, Or.inl rfl, trivial⟩
    · rw [if_neg c21] at h
      refine a_iff i_Li_read_43 c21 ?_
      refine a_aload_n i_Li_read_46 rfl ?_
      refine a_iload_n i_Li_read_47 rfl ?_
      refine a_aload_n i_Li_read_48 rfl ?_
      refine a_get (v := .ref 10) i_Li_read_49 rfl rfl ?_
      refine a_get (v := .ref 20) i_Li_read_52 rfl rfl ?_
      refine a_iload_n i_Li_read_55 rfl ?_
      obtain ⟨c28, h⟩ := gd_some h
      refine a_lal (n := 16) i_Li_read_56 rfl rfl (inb_in c28) ?_
      obtain ⟨v29, σ29, e29, h⟩ := am_bd_some h
      refine am_cvd (rest := []) [.int x1, .long (σ9.2.2 20 ((x1 * 4) + 0).toNatClampNeg)] c_Li_read_57 ⟨by decide, _, rfl⟩ rfl (Nat.le_of_ble_eq_true rfl) (t_Li_readTable e29) ?_
      by_cases c30 : v29 = 0
      · rw [if_pos c30] at h
        refine a_iff i_Li_read_60 c30 ?_
        refine a_iconst i_Li_read_63 ?_
        exact am_ret_z ok_Li_read rfl rfl (Or.inl rfl) (am_lf_i h)
      · rw [if_neg c30] at h
        refine a_ift i_Li_read_60 c30 ?_
        exact am_wk (t_Li_read_65 (fun h => ih h) h) ⟨Or.inr rfl, Or.inr rfl, Or.inl rfl, trivial⟩
  · rw [if_neg c5] at h
    refine a_ict i_Li_read_17 (Int32.not_lt.mp c5) ?_
    refine a_iconst i_Li_read_79 ?_
    exact am_ret_z ok_Li_read rfl rfl (Or.inr rfl) (am_lf_i h)
def g_Li_read (σ : am_S) : Option (Int32 × am_S) :=
  am_bd (g_Ro_forgetAll σ) fun _ σ3 =>
  g_Li_read_9 4000 (0) σ3
set_option maxHeartbeats 4000000 in
theorem t_Li_read_0 {σ σ' : am_S} {r : Int32} (h : g_Li_read σ = some (r, σ')) : am_A S_c M_Li_read (0, [some (.ref 49), none, none], [], σ) (am_r S_c (fun q τ => q = some (.int r) ∧ τ = σ')) := by
  unfold g_Li_read at h
  refine a_aload_n i_Li_read_0 rfl ?_
  refine a_get (v := .ref 40) i_Li_read_1 rfl rfl ?_
  obtain ⟨v3, σ3, e3, h⟩ := am_bd_some h
  refine am_cvd (rest := []) [] c_Li_read_4 ⟨by decide, _, rfl⟩ rfl (Nat.le_of_ble_eq_true rfl) (t_Ro_forgetAll e3) ?_
  refine a_iconst i_Li_read_7 ?_
  refine a_istore_n i_Li_read_8 rfl ?_
  exact t_Li_read_9 4000 h
theorem t_Li_read {σ σ' : am_S} {r : Int32} (h : g_Li_read σ = some (r, σ')) : am_Mt S_c M_Li_read [.ref 49] σ (fun q τ => q = some (.int r) ∧ τ = σ') :=
  am_M_of ok_Li_read (Nat.le_of_ble_eq_true rfl) (t_Li_read_0 h)
def g_Sy_readOne_143 (y0 : Int32) (σ : am_S) : Option (Int32 × am_S) :=
  am_gd (z01 y0) <|
  some (y0, σ)
set_option maxHeartbeats 4000000 in
theorem t_Sy_readOne_143 {y0 : Int32} {σ σ' : am_S} {r : Int32} (h : g_Sy_readOne_143 y0 σ = some (r, σ')) : am_A S_c M_Sy_readOne (143, [none], [.int y0], σ) (am_r S_c (fun q τ => q = some (.int r) ∧ τ = σ')) := by
  unfold g_Sy_readOne_143 at h
  obtain ⟨c1, h⟩ := gd_some h
  exact am_ret_z ok_Sy_readOne rfl rfl (z01_or c1) (am_lf_i h)
def g_Sy_readOne_142 (σ : am_S) : Option (Int32 × am_S) :=
  g_Sy_readOne_143 (0) σ
set_option maxHeartbeats 4000000 in
theorem t_Sy_readOne_142 {σ σ' : am_S} {r : Int32} (h : g_Sy_readOne_142 σ = some (r, σ')) : am_A S_c M_Sy_readOne (142, [none], [], σ) (am_r S_c (fun q τ => q = some (.int r) ∧ τ = σ')) := by
  unfold g_Sy_readOne_142 at h
  refine a_iconst i_Sy_readOne_142 ?_
  exact t_Sy_readOne_143 h
def g_Sy_readOne_58 (y0 : Int32) (y1 : Int32) (σ : am_S) : Option (Int32 × am_S) :=
  am_gd (inb y1 60) <|
  am_bd (g_Cu_skip 57 (3) (am_ai σ 54 y1.toNatClampNeg (vp_nar .boolean y0))) fun _ σ5 =>
  am_bd (g_Cu_number 57 (8) σ5) fun v13 σ13 =>
  am_gd (inb (σ5.1.1 52 6) 60) <|
  am_gd (inb (σ13.1.1 52 6) 60) <|
  am_bd (g_Cu_number 57 (8) (am_al σ13 55 (σ5.1.1 52 6).toNatClampNeg v13)) fun v27 σ27 =>
  am_gd (inb (σ13.1.1 52 6) 60) <|
  if (σ27.1.1 57 3) = 0 then
    am_gd (inb (σ27.1.1 52 6) 60) <|
    if ((am_al σ27 56 (σ13.1.1 52 6).toNatClampNeg (((am_al σ13 55 (σ5.1.1 52 6).toNatClampNeg v13).2.2 55 (σ13.1.1 52 6).toNatClampNeg) + v27)).2.1 53 (σ27.1.1 52 6).toNatClampNeg) = (-1) then
      g_Sy_readOne_142 (am_al σ27 56 (σ13.1.1 52 6).toNatClampNeg (((am_al σ13 55 (σ5.1.1 52 6).toNatClampNeg v13).2.2 55 (σ13.1.1 52 6).toNatClampNeg) + v27))
    else
      g_Sy_readOne_143 (1) (am_al σ27 56 (σ13.1.1 52 6).toNatClampNeg (((am_al σ13 55 (σ5.1.1 52 6).toNatClampNeg v13).2.2 55 (σ13.1.1 52 6).toNatClampNeg) + v27))
  else
    g_Sy_readOne_142 (am_al σ27 56 (σ13.1.1 52 6).toNatClampNeg (((am_al σ13 55 (σ5.1.1 52 6).toNatClampNeg v13).2.2 55 (σ13.1.1 52 6).toNatClampNeg) + v27))
set_option maxHeartbeats 4000000 in
theorem t_Sy_readOne_58 {y0 : Int32} {y1 : Int32} {σ σ' : am_S} {r : Int32} (h : g_Sy_readOne_58 y0 y1 σ = some (r, σ')) : am_A S_c M_Sy_readOne (58, [some (.ref 52)], [.int y0, .int y1, .ref 54], σ) (am_r S_c (fun q τ => q = some (.int r) ∧ τ = σ')) := by
  unfold g_Sy_readOne_58 at h
  obtain ⟨c1, h⟩ := gd_some h
  refine a_bas (n := 60) i_Sy_readOne_58 rfl rfl (inb_in c1) ?_
  refine a_aload_n i_Sy_readOne_59 rfl ?_
  refine a_get (v := .ref 57) i_Sy_readOne_60 rfl rfl ?_
  refine a_ldc2 i_Sy_readOne_63 ?_
  obtain ⟨v5, σ5, e5, h⟩ := am_bd_some h
  refine am_cvd (rest := []) [.long 3] c_Sy_readOne_66 ⟨by decide, _, rfl⟩ rfl (Nat.le_of_ble_eq_true rfl) (t_Cu_skip cu_57 e5) ?_
  refine a_aload_n i_Sy_readOne_69 rfl ?_
  refine a_get (v := .ref 55) i_Sy_readOne_70 rfl rfl ?_
  refine a_aload_n i_Sy_readOne_73 rfl ?_
  refine a_get (v := .int (σ5.1.1 52 6)) i_Sy_readOne_74 rfl rfl ?_
  refine a_aload_n i_Sy_readOne_77 rfl ?_
  refine a_get (v := .ref 57) i_Sy_readOne_78 rfl rfl ?_
  refine a_bipush i_Sy_readOne_81 ?_
  obtain ⟨v13, σ13, e13, h⟩ := am_bd_some h
  refine am_cvd (rest := [.int (σ5.1.1 52 6), .ref 55]) [.int 8] c_Sy_readOne_83 ⟨by decide, _, rfl⟩ rfl (Nat.le_of_ble_eq_true rfl) (t_Cu_number cu_57 e13) ?_
  obtain ⟨c14, h⟩ := gd_some h
  refine a_las (n := 60) i_Sy_readOne_86 rfl rfl (inb_in c14) ?_
  refine a_aload_n i_Sy_readOne_87 rfl ?_
  refine a_get (v := .ref 56) i_Sy_readOne_88 rfl rfl ?_
  refine a_aload_n i_Sy_readOne_91 rfl ?_
  refine a_get (v := .int (σ13.1.1 52 6)) i_Sy_readOne_92 rfl rfl ?_
  refine a_aload_n i_Sy_readOne_95 rfl ?_
  refine a_get (v := .ref 55) i_Sy_readOne_96 rfl rfl ?_
  refine a_aload_n i_Sy_readOne_99 rfl ?_
  refine a_get (v := .int (σ13.1.1 52 6)) i_Sy_readOne_100 rfl rfl ?_
  obtain ⟨c23, h⟩ := gd_some h
  refine a_lal (n := 60) i_Sy_readOne_103 rfl rfl (inb_in c23) ?_
  refine a_aload_n i_Sy_readOne_104 rfl ?_
  refine a_get (v := .ref 57) i_Sy_readOne_105 rfl rfl ?_
  refine a_bipush i_Sy_readOne_108 ?_
  obtain ⟨v27, σ27, e27, h⟩ := am_bd_some h
  refine am_cvd (rest := [.long ((am_al σ13 55 (σ5.1.1 52 6).toNatClampNeg v13).2.2 55 (σ13.1.1 52 6).toNatClampNeg), .int (σ13.1.1 52 6), .ref 56]) [.int 8] c_Sy_readOne_110 ⟨by decide, _, rfl⟩ rfl (Nat.le_of_ble_eq_true rfl) (t_Cu_number cu_57 e27) ?_
  refine a_ladd i_Sy_readOne_113 ?_
  obtain ⟨c29, h⟩ := gd_some h
  refine a_las (n := 60) i_Sy_readOne_114 rfl rfl (inb_in c29) ?_
  refine a_aload_n i_Sy_readOne_115 rfl ?_
  refine a_get (v := .ref 57) i_Sy_readOne_116 rfl rfl ?_
  refine a_get (v := .int (σ27.1.1 57 3)) i_Sy_readOne_119 rfl rfl ?_
  by_cases c33 : (σ27.1.1 57 3) = 0
  · rw [if_pos c33] at h
    refine a_iff i_Sy_readOne_122 c33 ?_
    refine a_aload_n i_Sy_readOne_125 rfl ?_
    refine a_get (v := .ref 53) i_Sy_readOne_126 rfl rfl ?_
    refine a_aload_n i_Sy_readOne_129 rfl ?_
    refine a_get (v := .int (σ27.1.1 52 6)) i_Sy_readOne_130 rfl rfl ?_
    obtain ⟨c38, h⟩ := gd_some h
    refine a_ial (n := 60) i_Sy_readOne_133 (by decide) rfl rfl (inb_in c38) ?_
    refine a_iconst i_Sy_readOne_134 ?_
    by_cases c40 : ((am_al σ27 56 (σ13.1.1 52 6).toNatClampNeg (((am_al σ13 55 (σ5.1.1 52 6).toNatClampNeg v13).2.2 55 (σ13.1.1 52 6).toNatClampNeg) + v27)).2.1 53 (σ27.1.1 52 6).toNatClampNeg) = (-1)
    · rw [if_pos c40] at h
      refine a_ict i_Sy_readOne_135 c40 ?_
      exact am_wk (t_Sy_readOne_142 h) ⟨Or.inl rfl, trivial⟩
    · rw [if_neg c40] at h
      refine a_icf i_Sy_readOne_135 c40 ?_
      refine a_iconst i_Sy_readOne_138 ?_
      refine a_goto i_Sy_readOne_139 ?_
      exact am_wk (t_Sy_readOne_143 h) ⟨Or.inl rfl, trivial⟩
  · rw [if_neg c33] at h
    refine a_ift i_Sy_readOne_122 c33 ?_
    exact am_wk (t_Sy_readOne_142 h) ⟨Or.inl rfl, trivial⟩
def g_Sy_readOne (σ : am_S) : Option (Int32 × am_S) :=
  am_bd (g_Cu_number 57 (4) σ) fun v11 σ11 =>
  am_bd (g_Se_textAt (9) v11 σ11) fun v12 σ12 =>
  am_gd (inb (σ.1.1 52 6) 60) <|
  am_bd (g_Cu_number 57 (1) (am_ai σ12 53 (σ.1.1 52 6).toNatClampNeg v12)) fun v21 σ21 =>
  if (lg_cmp (v21 &&& 15) 2) = 0 then
    g_Sy_readOne_58 (1) (σ12.1.1 52 6) σ21
  else
    g_Sy_readOne_58 (0) (σ12.1.1 52 6) σ21
set_option maxHeartbeats 4000000 in
theorem t_Sy_readOne_0 {σ σ' : am_S} {r : Int32} (h : g_Sy_readOne σ = some (r, σ')) : am_A S_c M_Sy_readOne (0, [some (.ref 52)], [], σ) (am_r S_c (fun q τ => q = some (.int r) ∧ τ = σ')) := by
  unfold g_Sy_readOne at h
  refine a_aload_n i_Sy_readOne_0 rfl ?_
  refine a_get (v := .ref 53) i_Sy_readOne_1 rfl rfl ?_
  refine a_aload_n i_Sy_readOne_4 rfl ?_
  refine a_get (v := .int (σ.1.1 52 6)) i_Sy_readOne_5 rfl rfl ?_
  refine a_aload_n i_Sy_readOne_8 rfl ?_
  refine a_get (v := .ref 2) i_Sy_readOne_9 rfl rfl ?_
  refine a_bipush i_Sy_readOne_12 ?_
  refine a_aload_n i_Sy_readOne_14 rfl ?_
  refine a_get (v := .ref 57) i_Sy_readOne_15 rfl rfl ?_
  refine a_iconst i_Sy_readOne_18 ?_
  obtain ⟨v11, σ11, e11, h⟩ := am_bd_some h
  refine am_cvd (rest := [.int 9, .ref 2, .int (σ.1.1 52 6), .ref 53]) [.int 4] c_Sy_readOne_19 ⟨by decide, _, rfl⟩ rfl (Nat.le_of_ble_eq_true rfl) (t_Cu_number cu_57 e11) ?_
  obtain ⟨v12, σ12, e12, h⟩ := am_bd_some h
  refine am_cvd (rest := [.int (σ.1.1 52 6), .ref 53]) [.int 9, .long v11] c_Sy_readOne_22 ⟨by decide, _, rfl⟩ rfl (Nat.le_of_ble_eq_true rfl) (t_Se_textAt e12) ?_
  obtain ⟨c13, h⟩ := gd_some h
  refine a_ias (n := 60) i_Sy_readOne_25 rfl rfl (inb_in c13) ?_
  refine a_aload_n i_Sy_readOne_26 rfl ?_
  refine a_get (v := .ref 54) i_Sy_readOne_27 rfl rfl ?_
  refine a_aload_n i_Sy_readOne_30 rfl ?_
  refine a_get (v := .int (σ12.1.1 52 6)) i_Sy_readOne_31 rfl rfl ?_
  refine a_aload_n i_Sy_readOne_34 rfl ?_
  refine a_get (v := .ref 57) i_Sy_readOne_35 rfl rfl ?_
  refine a_iconst i_Sy_readOne_38 ?_
  obtain ⟨v21, σ21, e21, h⟩ := am_bd_some h
  refine am_cvd (rest := [.int (σ12.1.1 52 6), .ref 54]) [.int 1] c_Sy_readOne_39 ⟨by decide, _, rfl⟩ rfl (Nat.le_of_ble_eq_true rfl) (t_Cu_number cu_57 e21) ?_
  refine a_ldc2 i_Sy_readOne_42 ?_
  refine a_land i_Sy_readOne_45 ?_
  refine a_ldc2 i_Sy_readOne_46 ?_
  refine a_lcmp i_Sy_readOne_49 ?_
  by_cases c26 : (lg_cmp (v21 &&& 15) 2) = 0
  · rw [if_pos c26] at h
    refine a_iff i_Sy_readOne_50 c26 ?_
    refine a_iconst i_Sy_readOne_53 ?_
    refine a_goto i_Sy_readOne_54 ?_
    exact t_Sy_readOne_58 h
  · rw [if_neg c26] at h
    refine a_ift i_Sy_readOne_50 c26 ?_
    refine a_iconst i_Sy_readOne_57 ?_
    exact t_Sy_readOne_58 h
theorem t_Sy_readOne {σ σ' : am_S} {r : Int32} (h : g_Sy_readOne σ = some (r, σ')) : am_Mt S_c M_Sy_readOne [.ref 52] σ (fun q τ => q = some (.int r) ∧ τ = σ') :=
  am_M_of ok_Sy_readOne (Nat.le_of_ble_eq_true rfl) (t_Sy_readOne_0 h)
def g_Sy_read_51 (σ : am_S) : Option (Int32 × am_S) :=
  some (0, σ)
set_option maxHeartbeats 4000000 in
theorem t_Sy_read_51 {σ σ' : am_S} {r : Int32} (h : g_Sy_read_51 σ = some (r, σ')) : am_A S_c M_Sy_read (51, [none, none, none], [], σ) (am_r S_c (fun q τ => q = some (.int r) ∧ τ = σ')) := by
  unfold g_Sy_read_51 at h
  refine a_iconst i_Sy_read_51 ?_
  exact am_ret_z ok_Sy_read rfl rfl (Or.inl rfl) (am_lf_i h)
def g_Sy_read_55 : Nat → Int32 → Int32 → am_S → Option (Int32 × am_S)
  | 0, _, _, _ => none
  | n + 1, x1, x2, σ =>
  am_gd (decide (¬ 24 = 0)) <|
  if x2 < (x1 / 24) then
    am_bd (g_Sy_readOne σ) fun v7 σ7 =>
    if v7 = 0 then
      some (0, σ7)
    else
      g_Sy_read_55 n x1 (x2 + 1) (am_fi σ7 52 6 ((σ7.1.1 52 6) + 1))
  else
    some (1, σ)
set_option maxHeartbeats 4000000 in
theorem t_Sy_read_55 : ∀ (n : Nat) {x1 : Int32} {x2 : Int32} {σ σ' : am_S} {r : Int32} (h : g_Sy_read_55 n x1 x2 σ = some (r, σ')), am_A S_c M_Sy_read (55, [some (.ref 52), some (.int x1), some (.int x2)], [], σ) (am_r S_c (fun q τ => q = some (.int r) ∧ τ = σ')) := by
  intro n
  induction n with
  | zero =>
    intro x1 x2 σ σ' r h
    cases h
  | succ n ih =>
  intro x1 x2 σ σ' r h
  unfold g_Sy_read_55 at h
  refine a_iload_n i_Sy_read_55 rfl ?_
  refine a_iload_n i_Sy_read_56 rfl ?_
  refine a_bipush i_Sy_read_57 ?_
  obtain ⟨c4, h⟩ := gd_some h
  refine a_idiv i_Sy_read_59 (of_decide_eq_true c4) ?_
  by_cases c5 : x2 < (x1 / 24)
  · rw [if_pos c5] at h
    refine a_icf i_Sy_read_60 (Int32.not_le.mpr c5) ?_
    refine a_aload_n i_Sy_read_63 rfl ?_
    obtain ⟨v7, σ7, e7, h⟩ := am_bd_some h
    refine am_cvd (rest := []) [] c_Sy_read_64 ⟨by decide, _, rfl⟩ rfl (Nat.le_of_ble_eq_true rfl) (t_Sy_readOne e7) ?_
    by_cases c8 : v7 = 0
    · rw [if_pos c8] at h
      refine a_iff i_Sy_read_67 c8 ?_
      refine a_iconst i_Sy_read_70 ?_
      exact am_ret_z ok_Sy_read rfl rfl (Or.inl rfl) (am_lf_i h)
    · rw [if_neg c8] at h
      refine a_ift i_Sy_read_67 c8 ?_
      refine a_aload_n i_Sy_read_72 rfl ?_
      refine a_dup_a i_Sy_read_73 ?_
      refine a_get (v := .int (σ7.1.1 52 6)) i_Sy_read_74 rfl rfl ?_
      refine a_iconst i_Sy_read_77 ?_
      refine a_iadd i_Sy_read_78 ?_
      refine a_puti i_Sy_read_79 rfl trivial ?_
      refine a_iinc i_Sy_read_82 rfl rfl ?_
      refine a_goto i_Sy_read_85 ?_
      exact ih h
  · rw [if_neg c5] at h
    refine a_ict i_Sy_read_60 (Int32.not_lt.mp c5) ?_
    refine a_iconst i_Sy_read_88 ?_
    exact am_ret_z ok_Sy_read rfl rfl (Or.inr rfl) (am_lf_i h)
def g_Sy_read (σ : am_S) : Option (Int32 × am_S) :=
  am_bd (g_Se_point 57 (8) (0) (am_fi σ 52 6 0)) fun _ σ10 =>
  am_gd (decide (¬ 24 = 0)) <|
  if (((σ10.1.1 57 2) - (σ10.1.1 57 1)) - ((σ10.1.1 57 2) - (σ10.1.1 57 1)) / 24 * 24) = 0 then
    am_gd (decide (¬ 24 = 0)) <|
    if 60 < (((σ10.1.1 57 2) - (σ10.1.1 57 1)) / 24) then
      g_Sy_read_51 σ10
    else
      g_Sy_read_55 4000 ((σ10.1.1 57 2) - (σ10.1.1 57 1)) (0) σ10
  else
    g_Sy_read_51 σ10
set_option maxHeartbeats 4000000 in
theorem t_Sy_read_0 {σ σ' : am_S} {r : Int32} (h : g_Sy_read σ = some (r, σ')) : am_A S_c M_Sy_read (0, [some (.ref 52), none, none], [], σ) (am_r S_c (fun q τ => q = some (.int r) ∧ τ = σ')) := by
  unfold g_Sy_read at h
  refine a_aload_n i_Sy_read_0 rfl ?_
  refine a_iconst i_Sy_read_1 ?_
  refine a_puti i_Sy_read_2 rfl trivial ?_
  refine a_aload_n i_Sy_read_5 rfl ?_
  refine a_get (v := .ref 2) i_Sy_read_6 rfl rfl ?_
  refine a_aload_n i_Sy_read_9 rfl ?_
  refine a_get (v := .ref 57) i_Sy_read_10 rfl rfl ?_
  refine a_bipush i_Sy_read_13 ?_
  refine a_lconst i_Sy_read_15 ?_
  obtain ⟨v10, σ10, e10, h⟩ := am_bd_some h
  refine am_cvd (rest := []) [.ref 57, .int 8, .long 0] c_Sy_read_16 ⟨by decide, _, rfl⟩ rfl (Nat.le_of_ble_eq_true rfl) (t_Se_point cu_57 e10) ?_
  refine a_aload_n i_Sy_read_19 rfl ?_
  refine a_get (v := .ref 57) i_Sy_read_20 rfl rfl ?_
  refine a_get (v := .int (σ10.1.1 57 2)) i_Sy_read_23 rfl rfl ?_
  refine a_aload_n i_Sy_read_26 rfl ?_
  refine a_get (v := .ref 57) i_Sy_read_27 rfl rfl ?_
  refine a_get (v := .int (σ10.1.1 57 1)) i_Sy_read_30 rfl rfl ?_
  refine a_isub i_Sy_read_33 ?_
  refine a_istore_n i_Sy_read_34 rfl ?_
  refine a_iload_n i_Sy_read_35 rfl ?_
  refine a_bipush i_Sy_read_36 ?_
  obtain ⟨c21, h⟩ := gd_some h
  refine a_irem i_Sy_read_38 (of_decide_eq_true c21) ?_
  by_cases c22 : (((σ10.1.1 57 2) - (σ10.1.1 57 1)) - ((σ10.1.1 57 2) - (σ10.1.1 57 1)) / 24 * 24) = 0
  · rw [if_pos c22] at h
    refine a_iff i_Sy_read_39 c22 ?_
    refine a_iload_n i_Sy_read_42 rfl ?_
    refine a_bipush i_Sy_read_43 ?_
    obtain ⟨c25, h⟩ := gd_some h
    refine a_idiv i_Sy_read_45 (of_decide_eq_true c25) ?_
    refine a_bipush i_Sy_read_46 ?_
    by_cases c27 : 60 < (((σ10.1.1 57 2) - (σ10.1.1 57 1)) / 24)
    · rw [if_pos c27] at h
      refine a_icf i_Sy_read_48 (Int32.not_le.mpr c27) ?_
      exact am_wk (t_Sy_read_51 h) ⟨Or.inl rfl, Or.inl rfl, Or.inl rfl, trivial⟩
    · rw [if_neg c27] at h
      refine a_ict i_Sy_read_48 (Int32.not_lt.mp c27) ?_
      refine a_iconst i_Sy_read_53 ?_
      refine a_istore_n i_Sy_read_54 rfl ?_
      exact t_Sy_read_55 4000 h
  · rw [if_neg c22] at h
    refine a_ift i_Sy_read_39 c22 ?_
    exact am_wk (t_Sy_read_51 h) ⟨Or.inl rfl, Or.inl rfl, Or.inl rfl, trivial⟩
theorem t_Sy_read {σ σ' : am_S} {r : Int32} (h : g_Sy_read σ = some (r, σ')) : am_Mt S_c M_Sy_read [.ref 52] σ (fun q τ => q = some (.int r) ∧ τ = σ') :=
  am_M_of ok_Sy_read (Nat.le_of_ble_eq_true rfl) (t_Sy_read_0 h)
def g_Sy_covering_47 (go : Int64 → Int32 → am_S → Option (Int32 × am_S)) (x1 : Int64) (x3 : Int32) (σ : am_S) : Option (Int32 × am_S) :=
  go x1 (x3 + 1) σ
set_option maxHeartbeats 4000000 in
theorem t_Sy_covering_47 {x1 : Int64} {x3 : Int32} {σ σ' : am_S} {r : Int32} {go : Int64 → Int32 → am_S → Option (Int32 × am_S)} (hgo : ∀ {x1 : Int64} {x3 : Int32} {σ σ' : am_S} {r : Int32}, go x1 x3 σ = some (r, σ') → am_A S_c M_Sy_covering (2, [some (.ref 52), some (.long x1), none, some (.int x3)], [], σ) (am_r S_c (fun q τ => q = some (.int r) ∧ τ = σ'))) (h : g_Sy_covering_47 go x1 x3 σ = some (r, σ')) : am_A S_c M_Sy_covering (47, [some (.ref 52), some (.long x1), none, some (.int x3)], [], σ) (am_r S_c (fun q τ => q = some (.int r) ∧ τ = σ')) := by
  unfold g_Sy_covering_47 at h
  refine a_iinc i_Sy_covering_47 rfl rfl ?_
  refine a_goto i_Sy_covering_50 ?_
  exact hgo h
def g_Sy_covering_2 : Nat → Int64 → Int32 → am_S → Option (Int32 × am_S)
  | 0, _, _, _ => none
  | n + 1, x1, x3, σ =>
  if x3 < (σ.1.1 52 6) then
    am_gd (inb x3 60) <|
    if (σ.2.1 54 x3.toNatClampNeg) = 0 then
      g_Sy_covering_47 (g_Sy_covering_2 n) x1 x3 σ
    else
      am_gd (inb x3 60) <|
      am_bd (g_F_isBelow x1 (σ.2.2 55 x3.toNatClampNeg) σ) fun v15 σ15 =>
      if v15 = 0 then
        am_gd (inb x3 60) <|
        am_bd (g_F_isBelow x1 (σ15.2.2 56 x3.toNatClampNeg) σ15) fun v22 σ22 =>
        if v22 = 0 then
          g_Sy_covering_47 (g_Sy_covering_2 n) x1 x3 σ22
        else
          some (x3, σ22)
      else
        g_Sy_covering_47 (g_Sy_covering_2 n) x1 x3 σ15
  else
    some ((-1), σ)
set_option maxHeartbeats 4000000 in
theorem t_Sy_covering_2 : ∀ (n : Nat) {x1 : Int64} {x3 : Int32} {σ σ' : am_S} {r : Int32} (h : g_Sy_covering_2 n x1 x3 σ = some (r, σ')), am_A S_c M_Sy_covering (2, [some (.ref 52), some (.long x1), none, some (.int x3)], [], σ) (am_r S_c (fun q τ => q = some (.int r) ∧ τ = σ')) := by
  intro n
  induction n with
  | zero =>
    intro x1 x3 σ σ' r h
    cases h
  | succ n ih =>
  intro x1 x3 σ σ' r h
  unfold g_Sy_covering_2 at h
  refine a_iload_n i_Sy_covering_2 rfl ?_
  refine a_aload_n i_Sy_covering_3 rfl ?_
  refine a_get (v := .int (σ.1.1 52 6)) i_Sy_covering_4 rfl rfl ?_
  by_cases c4 : x3 < (σ.1.1 52 6)
  · rw [if_pos c4] at h
    refine a_icf i_Sy_covering_7 (Int32.not_le.mpr c4) ?_
    refine a_aload_n i_Sy_covering_10 rfl ?_
    refine a_get (v := .ref 54) i_Sy_covering_11 rfl rfl ?_
    refine a_iload_n i_Sy_covering_14 rfl ?_
    obtain ⟨c8, h⟩ := gd_some h
    refine a_bal (n := 60) i_Sy_covering_15 rfl rfl (inb_in c8) ?_
    by_cases c9 : (σ.2.1 54 x3.toNatClampNeg) = 0
    · rw [if_pos c9] at h
      refine a_ift i_Sy_covering_16 c9 ?_
      exact t_Sy_covering_47 (fun h => ih h) h
    · rw [if_neg c9] at h
      refine a_iff i_Sy_covering_16 c9 ?_
      refine a_lload_n i_Sy_covering_19 rfl ?_
      refine a_aload_n i_Sy_covering_20 rfl ?_
      refine a_get (v := .ref 55) i_Sy_covering_21 rfl rfl ?_
      refine a_iload_n i_Sy_covering_24 rfl ?_
      obtain ⟨c14, h⟩ := gd_some h
      refine a_lal (n := 60) i_Sy_covering_25 rfl rfl (inb_in c14) ?_
      obtain ⟨v15, σ15, e15, h⟩ := am_bd_some h
      refine am_csd (rest := []) [.long x1, .long (σ.2.2 55 x3.toNatClampNeg)] c_Sy_covering_26 rfl (Nat.le_of_ble_eq_true rfl) (t_F_isBelow e15) ?_
      by_cases c16 : v15 = 0
      · rw [if_pos c16] at h
        refine a_iff i_Sy_covering_29 c16 ?_
        refine a_lload_n i_Sy_covering_32 rfl ?_
        refine a_aload_n i_Sy_covering_33 rfl ?_
        refine a_get (v := .ref 56) i_Sy_covering_34 rfl rfl ?_
        refine a_iload_n i_Sy_covering_37 rfl ?_
        obtain ⟨c21, h⟩ := gd_some h
        refine a_lal (n := 60) i_Sy_covering_38 rfl rfl (inb_in c21) ?_
        obtain ⟨v22, σ22, e22, h⟩ := am_bd_some h
        refine am_csd (rest := []) [.long x1, .long (σ15.2.2 56 x3.toNatClampNeg)] c_Sy_covering_39 rfl (Nat.le_of_ble_eq_true rfl) (t_F_isBelow e22) ?_
        by_cases c23 : v22 = 0
        · rw [if_pos c23] at h
          refine a_ift i_Sy_covering_42 c23 ?_
          exact t_Sy_covering_47 (fun h => ih h) h
        · rw [if_neg c23] at h
          refine a_iff i_Sy_covering_42 c23 ?_
          refine a_iload_n i_Sy_covering_45 rfl ?_
          exact am_ret_i ok_Sy_covering rfl rfl (am_lf_i h)
      · rw [if_neg c16] at h
        refine a_ift i_Sy_covering_29 c16 ?_
        exact t_Sy_covering_47 (fun h => ih h) h
  · rw [if_neg c4] at h
    refine a_ict i_Sy_covering_7 (Int32.not_lt.mp c4) ?_
    refine a_iconst i_Sy_covering_53 ?_
    exact am_ret_i ok_Sy_covering rfl rfl (am_lf_i h)
def g_Sy_covering (x1 : Int64) (σ : am_S) : Option (Int32 × am_S) :=
  g_Sy_covering_2 4000 x1 (0) σ
set_option maxHeartbeats 4000000 in
theorem t_Sy_covering_0 {x1 : Int64} {σ σ' : am_S} {r : Int32} (h : g_Sy_covering x1 σ = some (r, σ')) : am_A S_c M_Sy_covering (0, [some (.ref 52), some (.long x1), none, none], [], σ) (am_r S_c (fun q τ => q = some (.int r) ∧ τ = σ')) := by
  unfold g_Sy_covering at h
  refine a_iconst i_Sy_covering_0 ?_
  refine a_istore_n i_Sy_covering_1 rfl ?_
  exact t_Sy_covering_2 4000 h
theorem t_Sy_covering {x1 : Int64} {σ σ' : am_S} {r : Int32} (h : g_Sy_covering x1 σ = some (r, σ')) : am_Mt S_c M_Sy_covering [.ref 52, .long x1] σ (fun q τ => q = some (.int r) ∧ τ = σ') :=
  am_M_of ok_Sy_covering (Nat.le_of_ble_eq_true rfl) (t_Sy_covering_0 h)
def g_Fr_firstFunction_43 (go : Int64 → Int32 → am_S → Option (Int32 × am_S)) (x1 : Int64) (x3 : Int32) (σ : am_S) : Option (Int32 × am_S) :=
  go x1 (x3 + 1) σ
set_option maxHeartbeats 4000000 in
theorem t_Fr_firstFunction_43 {x1 : Int64} {x3 : Int32} {σ σ' : am_S} {r : Int32} {go : Int64 → Int32 → am_S → Option (Int32 × am_S)} (hgo : ∀ {x1 : Int64} {x3 : Int32} {σ σ' : am_S} {r : Int32}, go x1 x3 σ = some (r, σ') → am_A S_c M_Fr_firstFunction (2, [some (.ref 58), some (.long x1), none, some (.int x3)], [], σ) (am_r S_c (fun q τ => q = some (.int r) ∧ τ = σ'))) (h : g_Fr_firstFunction_43 go x1 x3 σ = some (r, σ')) : am_A S_c M_Fr_firstFunction (43, [some (.ref 58), some (.long x1), none, some (.int x3)], [], σ) (am_r S_c (fun q τ => q = some (.int r) ∧ τ = σ')) := by
  unfold g_Fr_firstFunction_43 at h
  refine a_iinc i_Fr_firstFunction_43 rfl rfl ?_
  refine a_goto i_Fr_firstFunction_46 ?_
  exact hgo h
def g_Fr_firstFunction_2 : Nat → Int64 → Int32 → am_S → Option (Int32 × am_S)
  | 0, _, _, _ => none
  | n + 1, x1, x3, σ =>
  if x3 < (σ.1.1 10 10) then
    am_gd (inb x3 200) <|
    if (lg_cmp (σ.2.2 11 x3.toNatClampNeg) 46) = 0 then
      am_bd (g_Ra_hold x3 x1 σ) fun v18 σ18 =>
      if v18 = 0 then
        g_Fr_firstFunction_43 (g_Fr_firstFunction_2 n) x1 x3 σ18
      else
        some (x3, σ18)
    else
      g_Fr_firstFunction_43 (g_Fr_firstFunction_2 n) x1 x3 σ
  else
    some ((-1), σ)
set_option maxHeartbeats 4000000 in
theorem t_Fr_firstFunction_2 : ∀ (n : Nat) {x1 : Int64} {x3 : Int32} {σ σ' : am_S} {r : Int32} (h : g_Fr_firstFunction_2 n x1 x3 σ = some (r, σ')), am_A S_c M_Fr_firstFunction (2, [some (.ref 58), some (.long x1), none, some (.int x3)], [], σ) (am_r S_c (fun q τ => q = some (.int r) ∧ τ = σ')) := by
  intro n
  induction n with
  | zero =>
    intro x1 x3 σ σ' r h
    cases h
  | succ n ih =>
  intro x1 x3 σ σ' r h
  unfold g_Fr_firstFunction_2 at h
  refine a_iload_n i_Fr_firstFunction_2 rfl ?_
  refine a_aload_n i_Fr_firstFunction_3 rfl ?_
  refine a_get (v := .ref 10) i_Fr_firstFunction_4 rfl rfl ?_
  refine a_get (v := .int (σ.1.1 10 10)) i_Fr_firstFunction_7 rfl rfl ?_
  by_cases c5 : x3 < (σ.1.1 10 10)
  · rw [if_pos c5] at h
    refine a_icf i_Fr_firstFunction_10 (Int32.not_le.mpr c5) ?_
    refine a_aload_n i_Fr_firstFunction_13 rfl ?_
    refine a_get (v := .ref 10) i_Fr_firstFunction_14 rfl rfl ?_
    refine a_get (v := .ref 11) i_Fr_firstFunction_17 rfl rfl ?_
    refine a_iload_n i_Fr_firstFunction_20 rfl ?_
    obtain ⟨c10, h⟩ := gd_some h
    refine a_lal (n := 200) i_Fr_firstFunction_21 rfl rfl (inb_in c10) ?_
    refine a_ldc2 i_Fr_firstFunction_22 ?_
    refine a_lcmp i_Fr_firstFunction_25 ?_
    by_cases c13 : (lg_cmp (σ.2.2 11 x3.toNatClampNeg) 46) = 0
    · rw [if_pos c13] at h
      refine a_iff i_Fr_firstFunction_26 c13 ?_
      refine a_aload_n i_Fr_firstFunction_29 rfl ?_
      refine a_get (v := .ref 32) i_Fr_firstFunction_30 rfl rfl ?_
      refine a_iload_n i_Fr_firstFunction_33 rfl ?_
      refine a_lload_n i_Fr_firstFunction_34 rfl ?_
      obtain ⟨v18, σ18, e18, h⟩ := am_bd_some h
      refine am_cvd (rest := []) [.int x3, .long x1] c_Fr_firstFunction_35 ⟨by decide, _, rfl⟩ rfl (Nat.le_of_ble_eq_true rfl) (t_Ra_hold e18) ?_
      by_cases c19 : v18 = 0
      · rw [if_pos c19] at h
        refine a_ift i_Fr_firstFunction_38 c19 ?_
        exact t_Fr_firstFunction_43 (fun h => ih h) h
      · rw [if_neg c19] at h
        refine a_iff i_Fr_firstFunction_38 c19 ?_
        refine a_iload_n i_Fr_firstFunction_41 rfl ?_
        exact am_ret_i ok_Fr_firstFunction rfl rfl (am_lf_i h)
    · rw [if_neg c13] at h
      refine a_ift i_Fr_firstFunction_26 c13 ?_
      exact t_Fr_firstFunction_43 (fun h => ih h) h
  · rw [if_neg c5] at h
    refine a_ict i_Fr_firstFunction_10 (Int32.not_lt.mp c5) ?_
    refine a_iconst i_Fr_firstFunction_49 ?_
    exact am_ret_i ok_Fr_firstFunction rfl rfl (am_lf_i h)
def g_Fr_firstFunction (x1 : Int64) (σ : am_S) : Option (Int32 × am_S) :=
  g_Fr_firstFunction_2 4000 x1 (0) σ
set_option maxHeartbeats 4000000 in
theorem t_Fr_firstFunction_0 {x1 : Int64} {σ σ' : am_S} {r : Int32} (h : g_Fr_firstFunction x1 σ = some (r, σ')) : am_A S_c M_Fr_firstFunction (0, [some (.ref 58), some (.long x1), none, none], [], σ) (am_r S_c (fun q τ => q = some (.int r) ∧ τ = σ')) := by
  unfold g_Fr_firstFunction at h
  refine a_iconst i_Fr_firstFunction_0 ?_
  refine a_istore_n i_Fr_firstFunction_1 rfl ?_
  exact t_Fr_firstFunction_2 4000 h
theorem t_Fr_firstFunction {x1 : Int64} {σ σ' : am_S} {r : Int32} (h : g_Fr_firstFunction x1 σ = some (r, σ')) : am_Mt S_c M_Fr_firstFunction [.ref 58, .long x1] σ (fun q τ => q = some (.int r) ∧ τ = σ') :=
  am_M_of ok_Fr_firstFunction (Nat.le_of_ble_eq_true rfl) (t_Fr_firstFunction_0 h)
def g_Fr_isIn_50 (σ : am_S) : Option (Int32 × am_S) :=
  some (0, σ)
set_option maxHeartbeats 4000000 in
theorem t_Fr_isIn_50 {σ σ' : am_S} {r : Int32} (h : g_Fr_isIn_50 σ = some (r, σ')) : am_A S_c M_Fr_isIn (50, [none, none, none, none, none, none, none], [], σ) (am_r S_c (fun q τ => q = some (.int r) ∧ τ = σ')) := by
  unfold g_Fr_isIn_50 at h
  refine a_iconst i_Fr_isIn_50 ?_
  exact am_ret_z ok_Fr_isIn rfl rfl (Or.inl rfl) (am_lf_i h)
def g_Fr_isIn_79 (go : Int32 → Int64 → Int32 → Int32 → am_S → Option (Int32 × am_S)) (x2 : Int32) (x3 : Int64) (x5 : Int32) (x6 : Int32) (σ : am_S) : Option (Int32 × am_S) :=
  am_gd (inb x5 200) <|
  go x2 x3 (σ.2.1 12 x5.toNatClampNeg) (x6 + 1) σ
set_option maxHeartbeats 4000000 in
theorem t_Fr_isIn_79 {x2 : Int32} {x3 : Int64} {x5 : Int32} {x6 : Int32} {σ σ' : am_S} {r : Int32} {go : Int32 → Int64 → Int32 → Int32 → am_S → Option (Int32 × am_S)} (hgo : ∀ {x2 : Int32} {x3 : Int64} {x5 : Int32} {x6 : Int32} {σ σ' : am_S} {r : Int32}, go x2 x3 x5 x6 σ = some (r, σ') → am_A S_c M_Fr_isIn (14, [some (.ref 58), none, some (.int x2), some (.long x3), none, some (.int x5), some (.int x6)], [], σ) (am_r S_c (fun q τ => q = some (.int r) ∧ τ = σ'))) (h : g_Fr_isIn_79 go x2 x3 x5 x6 σ = some (r, σ')) : am_A S_c M_Fr_isIn (79, [some (.ref 58), none, some (.int x2), some (.long x3), none, some (.int x5), some (.int x6)], [], σ) (am_r S_c (fun q τ => q = some (.int r) ∧ τ = σ')) := by
  unfold g_Fr_isIn_79 at h
  refine a_aload_n i_Fr_isIn_79 rfl ?_
  refine a_get (v := .ref 10) i_Fr_isIn_80 rfl rfl ?_
  refine a_get (v := .ref 12) i_Fr_isIn_83 rfl rfl ?_
  refine a_iload i_Fr_isIn_86 rfl ?_
  obtain ⟨c5, h⟩ := gd_some h
  refine a_ial (n := 200) i_Fr_isIn_88 (by decide) rfl rfl (inb_in c5) ?_
  refine a_istore i_Fr_isIn_89 rfl ?_
  refine a_iinc i_Fr_isIn_91 rfl rfl ?_
  refine a_goto i_Fr_isIn_94 ?_
  exact hgo h
def g_Fr_isIn_108 (y0 : Int32) (σ : am_S) : Option (Int32 × am_S) :=
  am_gd (z01 y0) <|
  some (y0, σ)
set_option maxHeartbeats 4000000 in
theorem t_Fr_isIn_108 {y0 : Int32} {σ σ' : am_S} {r : Int32} (h : g_Fr_isIn_108 y0 σ = some (r, σ')) : am_A S_c M_Fr_isIn (108, [none, none, none, none, none, none, none], [.int y0], σ) (am_r S_c (fun q τ => q = some (.int r) ∧ τ = σ')) := by
  unfold g_Fr_isIn_108 at h
  obtain ⟨c1, h⟩ := gd_some h
  exact am_ret_z ok_Fr_isIn rfl rfl (z01_or c1) (am_lf_i h)
def g_Fr_isIn_97 (x2 : Int32) (x5 : Int32) (σ : am_S) : Option (Int32 × am_S) :=
  if x5 = x2 then
    g_Fr_isIn_108 (1) σ
  else
    g_Fr_isIn_108 (0) σ
set_option maxHeartbeats 4000000 in
theorem t_Fr_isIn_97 {x2 : Int32} {x5 : Int32} {σ σ' : am_S} {r : Int32} (h : g_Fr_isIn_97 x2 x5 σ = some (r, σ')) : am_A S_c M_Fr_isIn (97, [none, none, some (.int x2), none, none, some (.int x5), none], [], σ) (am_r S_c (fun q τ => q = some (.int r) ∧ τ = σ')) := by
  unfold g_Fr_isIn_97 at h
  refine a_iload i_Fr_isIn_97 rfl ?_
  refine a_iload_n i_Fr_isIn_99 rfl ?_
  by_cases c3 : x5 = x2
  · rw [if_pos c3] at h
    refine a_icf i_Fr_isIn_100 c3 ?_
    refine a_iconst i_Fr_isIn_103 ?_
    refine a_goto i_Fr_isIn_104 ?_
    exact am_wk (t_Fr_isIn_108 h) ⟨Or.inl rfl, Or.inl rfl, Or.inl rfl, Or.inl rfl, Or.inl rfl, Or.inl rfl, Or.inl rfl, trivial⟩
  · rw [if_neg c3] at h
    refine a_ict i_Fr_isIn_100 c3 ?_
    refine a_iconst i_Fr_isIn_107 ?_
    exact am_wk (t_Fr_isIn_108 h) ⟨Or.inl rfl, Or.inl rfl, Or.inl rfl, Or.inl rfl, Or.inl rfl, Or.inl rfl, Or.inl rfl, trivial⟩
def g_Fr_isIn_14 : Nat → Int32 → Int64 → Int32 → Int32 → am_S → Option (Int32 × am_S)
  | 0, _, _, _, _, _ => none
  | n + 1, x2, x3, x5, x6, σ =>
  if x6 < 16 then
    if x5 = x2 then
      g_Fr_isIn_97 x2 x5 σ
    else
      if x5 = (-1) then
        g_Fr_isIn_50 σ
      else
        am_gd (inb x5 200) <|
        if (lg_cmp (σ.2.2 11 x5.toNatClampNeg) 11) = 0 then
          am_bd (g_En_hasPlaces x5 σ) fun v21 σ21 =>
          if v21 = 0 then
            g_Fr_isIn_79 (g_Fr_isIn_14 n) x2 x3 x5 x6 σ21
          else
            am_bd (g_Ra_hold x5 x3 σ21) fun v27 σ27 =>
            if v27 = 0 then
              some (0, σ27)
            else
              g_Fr_isIn_79 (g_Fr_isIn_14 n) x2 x3 x5 x6 σ27
        else
          g_Fr_isIn_50 σ
  else
    g_Fr_isIn_97 x2 x5 σ
set_option maxHeartbeats 4000000 in
theorem t_Fr_isIn_14 : ∀ (n : Nat) {x2 : Int32} {x3 : Int64} {x5 : Int32} {x6 : Int32} {σ σ' : am_S} {r : Int32} (h : g_Fr_isIn_14 n x2 x3 x5 x6 σ = some (r, σ')), am_A S_c M_Fr_isIn (14, [some (.ref 58), none, some (.int x2), some (.long x3), none, some (.int x5), some (.int x6)], [], σ) (am_r S_c (fun q τ => q = some (.int r) ∧ τ = σ')) := by
  intro n
  induction n with
  | zero =>
    intro x2 x3 x5 x6 σ σ' r h
    cases h
  | succ n ih =>
  intro x2 x3 x5 x6 σ σ' r h
  unfold g_Fr_isIn_14 at h
  refine a_iload i_Fr_isIn_14 rfl ?_
  refine a_bipush i_Fr_isIn_16 ?_
  by_cases c3 : x6 < 16
  · rw [if_pos c3] at h
    refine a_icf i_Fr_isIn_18 (Int32.not_le.mpr c3) ?_
    refine a_iload i_Fr_isIn_21 rfl ?_
    refine a_iload_n i_Fr_isIn_23 rfl ?_
    by_cases c6 : x5 = x2
    · rw [if_pos c6] at h
      refine a_ict i_Fr_isIn_24 c6 ?_
      exact am_wk (t_Fr_isIn_97 h) ⟨Or.inl rfl, Or.inl rfl, Or.inr rfl, Or.inl rfl, Or.inl rfl, Or.inr rfl, Or.inl rfl, trivial⟩
    · rw [if_neg c6] at h
      refine a_icf i_Fr_isIn_24 c6 ?_
      refine a_iload i_Fr_isIn_27 rfl ?_
      refine a_iconst i_Fr_isIn_29 ?_
      by_cases c9 : x5 = (-1)
      · rw [if_pos c9] at h
        refine a_ict i_Fr_isIn_30 c9 ?_
        exact am_wk (t_Fr_isIn_50 h) ⟨Or.inl rfl, Or.inl rfl, Or.inl rfl, Or.inl rfl, Or.inl rfl, Or.inl rfl, Or.inl rfl, trivial⟩
      · rw [if_neg c9] at h
        refine a_icf i_Fr_isIn_30 c9 ?_
        refine a_aload_n i_Fr_isIn_33 rfl ?_
        refine a_get (v := .ref 10) i_Fr_isIn_34 rfl rfl ?_
        refine a_get (v := .ref 11) i_Fr_isIn_37 rfl rfl ?_
        refine a_iload i_Fr_isIn_40 rfl ?_
        obtain ⟨c14, h⟩ := gd_some h
        refine a_lal (n := 200) i_Fr_isIn_42 rfl rfl (inb_in c14) ?_
        refine a_ldc2 i_Fr_isIn_43 ?_
        refine a_lcmp i_Fr_isIn_46 ?_
        by_cases c17 : (lg_cmp (σ.2.2 11 x5.toNatClampNeg) 11) = 0
        · rw [if_pos c17] at h
          refine a_ift i_Fr_isIn_47 c17 ?_
          refine a_aload_n i_Fr_isIn_52 rfl ?_
          refine a_get (v := .ref 10) i_Fr_isIn_53 rfl rfl ?_
          refine a_iload i_Fr_isIn_56 rfl ?_
          obtain ⟨v21, σ21, e21, h⟩ := am_bd_some h
          refine am_cvd (rest := []) [.int x5] c_Fr_isIn_58 ⟨by decide, _, rfl⟩ rfl (Nat.le_of_ble_eq_true rfl) (t_En_hasPlaces e21) ?_
          by_cases c22 : v21 = 0
          · rw [if_pos c22] at h
            refine a_ift i_Fr_isIn_61 c22 ?_
            exact t_Fr_isIn_79 (fun h => ih h) h
          · rw [if_neg c22] at h
            refine a_iff i_Fr_isIn_61 c22 ?_
            refine a_aload_n i_Fr_isIn_64 rfl ?_
            refine a_get (v := .ref 32) i_Fr_isIn_65 rfl rfl ?_
            refine a_iload i_Fr_isIn_68 rfl ?_
            refine a_lload_n i_Fr_isIn_70 rfl ?_
            obtain ⟨v27, σ27, e27, h⟩ := am_bd_some h
            refine am_cvd (rest := []) [.int x5, .long x3] c_Fr_isIn_71 ⟨by decide, _, rfl⟩ rfl (Nat.le_of_ble_eq_true rfl) (t_Ra_hold e27) ?_
            by_cases c28 : v27 = 0
            · rw [if_pos c28] at h
              refine a_iff i_Fr_isIn_74 c28 ?_
              refine a_iconst i_Fr_isIn_77 ?_
              exact am_ret_z ok_Fr_isIn rfl rfl (Or.inl rfl) (am_lf_i h)
            · rw [if_neg c28] at h
              refine a_ift i_Fr_isIn_74 c28 ?_
              exact t_Fr_isIn_79 (fun h => ih h) h
        · rw [if_neg c17] at h
          refine a_iff i_Fr_isIn_47 c17 ?_
          exact am_wk (t_Fr_isIn_50 h) ⟨Or.inl rfl, Or.inl rfl, Or.inl rfl, Or.inl rfl, Or.inl rfl, Or.inl rfl, Or.inl rfl, trivial⟩
  · rw [if_neg c3] at h
    refine a_ict i_Fr_isIn_18 (Int32.not_lt.mp c3) ?_
    exact am_wk (t_Fr_isIn_97 h) ⟨Or.inl rfl, Or.inl rfl, Or.inr rfl, Or.inl rfl, Or.inl rfl, Or.inr rfl, Or.inl rfl, trivial⟩
def g_Fr_isIn (x1 : Int32) (x2 : Int32) (x3 : Int64) (σ : am_S) : Option (Int32 × am_S) :=
  am_gd (inb x1 200) <|
  g_Fr_isIn_14 4000 x2 x3 (σ.2.1 12 x1.toNatClampNeg) (0) σ
set_option maxHeartbeats 4000000 in
theorem t_Fr_isIn_0 {x1 : Int32} {x2 : Int32} {x3 : Int64} {σ σ' : am_S} {r : Int32} (h : g_Fr_isIn x1 x2 x3 σ = some (r, σ')) : am_A S_c M_Fr_isIn (0, [some (.ref 58), some (.int x1), some (.int x2), some (.long x3), none, none, none], [], σ) (am_r S_c (fun q τ => q = some (.int r) ∧ τ = σ')) := by
  unfold g_Fr_isIn at h
  refine a_aload_n i_Fr_isIn_0 rfl ?_
  refine a_get (v := .ref 10) i_Fr_isIn_1 rfl rfl ?_
  refine a_get (v := .ref 12) i_Fr_isIn_4 rfl rfl ?_
  refine a_iload_n i_Fr_isIn_7 rfl ?_
  obtain ⟨c5, h⟩ := gd_some h
  refine a_ial (n := 200) i_Fr_isIn_8 (by decide) rfl rfl (inb_in c5) ?_
  refine a_istore i_Fr_isIn_9 rfl ?_
  refine a_iconst i_Fr_isIn_11 ?_
  refine a_istore i_Fr_isIn_12 rfl ?_
  exact am_wk (t_Fr_isIn_14 4000 h) ⟨Or.inr rfl, Or.inl rfl, Or.inr rfl, Or.inr rfl, Or.inl rfl, Or.inr rfl, Or.inr rfl, trivial⟩
theorem t_Fr_isIn {x1 : Int32} {x2 : Int32} {x3 : Int64} {σ σ' : am_S} {r : Int32} (h : g_Fr_isIn x1 x2 x3 σ = some (r, σ')) : am_Mt S_c M_Fr_isIn [.ref 58, .int x1, .int x2, .long x3] σ (fun q τ => q = some (.int r) ∧ τ = σ') :=
  am_M_of ok_Fr_isIn (Nat.le_of_ble_eq_true rfl) (t_Fr_isIn_0 h)
def g_Fr_firstPutInto_61 (go : Int32 → Int64 → Int32 → am_S → Option (Int32 × am_S)) (x1 : Int32) (x2 : Int64) (x4 : Int32) (σ : am_S) : Option (Int32 × am_S) :=
  go x1 x2 (x4 + 1) σ
set_option maxHeartbeats 4000000 in
theorem t_Fr_firstPutInto_61 {x1 : Int32} {x2 : Int64} {x4 : Int32} {σ σ' : am_S} {r : Int32} {go : Int32 → Int64 → Int32 → am_S → Option (Int32 × am_S)} (hgo : ∀ {x1 : Int32} {x2 : Int64} {x4 : Int32} {σ σ' : am_S} {r : Int32}, go x1 x2 x4 σ = some (r, σ') → am_A S_c M_Fr_firstPutInto (5, [some (.ref 58), some (.int x1), some (.long x2), none, some (.int x4)], [], σ) (am_r S_c (fun q τ => q = some (.int r) ∧ τ = σ'))) (h : g_Fr_firstPutInto_61 go x1 x2 x4 σ = some (r, σ')) : am_A S_c M_Fr_firstPutInto (61, [some (.ref 58), some (.int x1), some (.long x2), none, some (.int x4)], [], σ) (am_r S_c (fun q τ => q = some (.int r) ∧ τ = σ')) := by
  unfold g_Fr_firstPutInto_61 at h
  refine a_iinc i_Fr_firstPutInto_61 rfl rfl ?_
  refine a_goto i_Fr_firstPutInto_64 ?_
  exact hgo h
def g_Fr_firstPutInto_5 : Nat → Int32 → Int64 → Int32 → am_S → Option (Int32 × am_S)
  | 0, _, _, _, _ => none
  | n + 1, x1, x2, x4, σ =>
  if x4 < (σ.1.1 10 10) then
    am_gd (inb x4 200) <|
    if (lg_cmp (σ.2.2 11 x4.toNatClampNeg) 29) = 0 then
      am_bd (g_Ra_hold x4 x2 σ) fun v18 σ18 =>
      if v18 = 0 then
        g_Fr_firstPutInto_61 (g_Fr_firstPutInto_5 n) x1 x2 x4 σ18
      else
        am_bd (g_Fr_isIn x4 x1 x2 σ18) fun v24 σ24 =>
        if v24 = 0 then
          g_Fr_firstPutInto_61 (g_Fr_firstPutInto_5 n) x1 x2 x4 σ24
        else
          some (x4, σ24)
    else
      g_Fr_firstPutInto_61 (g_Fr_firstPutInto_5 n) x1 x2 x4 σ
  else
    some ((-1), σ)
set_option maxHeartbeats 4000000 in
theorem t_Fr_firstPutInto_5 : ∀ (n : Nat) {x1 : Int32} {x2 : Int64} {x4 : Int32} {σ σ' : am_S} {r : Int32} (h : g_Fr_firstPutInto_5 n x1 x2 x4 σ = some (r, σ')), am_A S_c M_Fr_firstPutInto (5, [some (.ref 58), some (.int x1), some (.long x2), none, some (.int x4)], [], σ) (am_r S_c (fun q τ => q = some (.int r) ∧ τ = σ')) := by
  intro n
  induction n with
  | zero =>
    intro x1 x2 x4 σ σ' r h
    cases h
  | succ n ih =>
  intro x1 x2 x4 σ σ' r h
  unfold g_Fr_firstPutInto_5 at h
  refine a_iload i_Fr_firstPutInto_5 rfl ?_
  refine a_aload_n i_Fr_firstPutInto_7 rfl ?_
  refine a_get (v := .ref 10) i_Fr_firstPutInto_8 rfl rfl ?_
  refine a_get (v := .int (σ.1.1 10 10)) i_Fr_firstPutInto_11 rfl rfl ?_
  by_cases c5 : x4 < (σ.1.1 10 10)
  · rw [if_pos c5] at h
    refine a_icf i_Fr_firstPutInto_14 (Int32.not_le.mpr c5) ?_
    refine a_aload_n i_Fr_firstPutInto_17 rfl ?_
    refine a_get (v := .ref 10) i_Fr_firstPutInto_18 rfl rfl ?_
    refine a_get (v := .ref 11) i_Fr_firstPutInto_21 rfl rfl ?_
    refine a_iload i_Fr_firstPutInto_24 rfl ?_
    obtain ⟨c10, h⟩ := gd_some h
    refine a_lal (n := 200) i_Fr_firstPutInto_26 rfl rfl (inb_in c10) ?_
    refine a_ldc2 i_Fr_firstPutInto_27 ?_
    refine a_lcmp i_Fr_firstPutInto_30 ?_
    by_cases c13 : (lg_cmp (σ.2.2 11 x4.toNatClampNeg) 29) = 0
    · rw [if_pos c13] at h
      refine a_iff i_Fr_firstPutInto_31 c13 ?_
      refine a_aload_n i_Fr_firstPutInto_34 rfl ?_
      refine a_get (v := .ref 32) i_Fr_firstPutInto_35 rfl rfl ?_
      refine a_iload i_Fr_firstPutInto_38 rfl ?_
      refine a_lload_n i_Fr_firstPutInto_40 rfl ?_
      obtain ⟨v18, σ18, e18, h⟩ := am_bd_some h
      refine am_cvd (rest := []) [.int x4, .long x2] c_Fr_firstPutInto_41 ⟨by decide, _, rfl⟩ rfl (Nat.le_of_ble_eq_true rfl) (t_Ra_hold e18) ?_
      by_cases c19 : v18 = 0
      · rw [if_pos c19] at h
        refine a_ift i_Fr_firstPutInto_44 c19 ?_
        exact t_Fr_firstPutInto_61 (fun h => ih h) h
      · rw [if_neg c19] at h
        refine a_iff i_Fr_firstPutInto_44 c19 ?_
        refine a_aload_n i_Fr_firstPutInto_47 rfl ?_
        refine a_iload i_Fr_firstPutInto_48 rfl ?_
        refine a_iload_n i_Fr_firstPutInto_50 rfl ?_
        refine a_lload_n i_Fr_firstPutInto_51 rfl ?_
        obtain ⟨v24, σ24, e24, h⟩ := am_bd_some h
        refine am_cvd (rest := []) [.int x4, .int x1, .long x2] c_Fr_firstPutInto_52 ⟨by decide, _, rfl⟩ rfl (Nat.le_of_ble_eq_true rfl) (t_Fr_isIn e24) ?_
        by_cases c25 : v24 = 0
        · rw [if_pos c25] at h
          refine a_ift i_Fr_firstPutInto_55 c25 ?_
          exact t_Fr_firstPutInto_61 (fun h => ih h) h
        · rw [if_neg c25] at h
          refine a_iff i_Fr_firstPutInto_55 c25 ?_
          refine a_iload i_Fr_firstPutInto_58 rfl ?_
          exact am_ret_i ok_Fr_firstPutInto rfl rfl (am_lf_i h)
    · rw [if_neg c13] at h
      refine a_ift i_Fr_firstPutInto_31 c13 ?_
      exact t_Fr_firstPutInto_61 (fun h => ih h) h
  · rw [if_neg c5] at h
    refine a_ict i_Fr_firstPutInto_14 (Int32.not_lt.mp c5) ?_
    refine a_iconst i_Fr_firstPutInto_67 ?_
    exact am_ret_i ok_Fr_firstPutInto rfl rfl (am_lf_i h)
def g_Fr_firstPutInto (x1 : Int32) (x2 : Int64) (σ : am_S) : Option (Int32 × am_S) :=
  g_Fr_firstPutInto_5 4000 x1 x2 (x1 + 1) σ
set_option maxHeartbeats 4000000 in
theorem t_Fr_firstPutInto_0 {x1 : Int32} {x2 : Int64} {σ σ' : am_S} {r : Int32} (h : g_Fr_firstPutInto x1 x2 σ = some (r, σ')) : am_A S_c M_Fr_firstPutInto (0, [some (.ref 58), some (.int x1), some (.long x2), none, none], [], σ) (am_r S_c (fun q τ => q = some (.int r) ∧ τ = σ')) := by
  unfold g_Fr_firstPutInto at h
  refine a_iload_n i_Fr_firstPutInto_0 rfl ?_
  refine a_iconst i_Fr_firstPutInto_1 ?_
  refine a_iadd i_Fr_firstPutInto_2 ?_
  refine a_istore i_Fr_firstPutInto_3 rfl ?_
  exact t_Fr_firstPutInto_5 4000 h
theorem t_Fr_firstPutInto {x1 : Int32} {x2 : Int64} {σ σ' : am_S} {r : Int32} (h : g_Fr_firstPutInto x1 x2 σ = some (r, σ')) : am_Mt S_c M_Fr_firstPutInto [.ref 58, .int x1, .long x2] σ (fun q τ => q = some (.int r) ∧ τ = σ') :=
  am_M_of ok_Fr_firstPutInto (Nat.le_of_ble_eq_true rfl) (t_Fr_firstPutInto_0 h)
def g_Fr_nameOf_4 : Nat → Int32 → Int32 → am_S → Option (Int32 × am_S)
  | 0, _, _, _ => none
  | n + 1, x2, x3, σ =>
  if 8 < x3 then
    some ((-1), σ)
  else
    am_bd (g_En_has x2 (0) σ) fun v8 σ8 =>
    if v8 = 0 then
      am_bd (g_En_has x2 (4) σ8) fun v14 σ14 =>
      if v14 = 0 then
        some ((-1), σ14)
      else
        am_bd (g_En_valueOf x2 (4) σ14) fun v20 σ20 =>
        g_Fr_nameOf_4 n v20.toInt32 (x3 + 1) σ20
    else
      am_bd (g_En_valueOf x2 (0) σ8) fun v14 σ14 =>
      some (v14.toInt32, σ14)
set_option maxHeartbeats 4000000 in
theorem t_Fr_nameOf_4 : ∀ (n : Nat) {x2 : Int32} {x3 : Int32} {σ σ' : am_S} {r : Int32} (h : g_Fr_nameOf_4 n x2 x3 σ = some (r, σ')), am_A S_c M_Fr_nameOf (4, [some (.ref 58), none, some (.int x2), some (.int x3)], [], σ) (am_r S_c (fun q τ => q = some (.int r) ∧ τ = σ')) := by
  intro n
  induction n with
  | zero =>
    intro x2 x3 σ σ' r h
    cases h
  | succ n ih =>
  intro x2 x3 σ σ' r h
  unfold g_Fr_nameOf_4 at h
  refine a_iload_n i_Fr_nameOf_4 rfl ?_
  refine a_bipush i_Fr_nameOf_5 ?_
  by_cases c3 : 8 < x3
  · rw [if_pos c3] at h
    refine a_ict i_Fr_nameOf_7 c3 ?_
    refine a_iconst i_Fr_nameOf_64 ?_
    exact am_ret_i ok_Fr_nameOf rfl rfl (am_lf_i h)
  · rw [if_neg c3] at h
    refine a_icf i_Fr_nameOf_7 c3 ?_
    refine a_aload_n i_Fr_nameOf_10 rfl ?_
    refine a_get (v := .ref 10) i_Fr_nameOf_11 rfl rfl ?_
    refine a_iload_n i_Fr_nameOf_14 rfl ?_
    refine a_iconst i_Fr_nameOf_15 ?_
    obtain ⟨v8, σ8, e8, h⟩ := am_bd_some h
    refine am_cvd (rest := []) [.int x2, .int 0] c_Fr_nameOf_16 ⟨by decide, _, rfl⟩ rfl (Nat.le_of_ble_eq_true rfl) (t_En_has e8) ?_
    by_cases c9 : v8 = 0
    · rw [if_pos c9] at h
      refine a_ift i_Fr_nameOf_19 c9 ?_
      refine a_aload_n i_Fr_nameOf_33 rfl ?_
      refine a_get (v := .ref 10) i_Fr_nameOf_34 rfl rfl ?_
      refine a_iload_n i_Fr_nameOf_37 rfl ?_
      refine a_iconst i_Fr_nameOf_38 ?_
      obtain ⟨v14, σ14, e14, h⟩ := am_bd_some h
      refine am_cvd (rest := []) [.int x2, .int 4] c_Fr_nameOf_39 ⟨by decide, _, rfl⟩ rfl (Nat.le_of_ble_eq_true rfl) (t_En_has e14) ?_
      by_cases c15 : v14 = 0
      · rw [if_pos c15] at h
        refine a_iff i_Fr_nameOf_42 c15 ?_
        refine a_iconst i_Fr_nameOf_45 ?_
        exact am_ret_i ok_Fr_nameOf rfl rfl (am_lf_i h)
      · rw [if_neg c15] at h
        refine a_ift i_Fr_nameOf_42 c15 ?_
        refine a_aload_n i_Fr_nameOf_47 rfl ?_
        refine a_get (v := .ref 10) i_Fr_nameOf_48 rfl rfl ?_
        refine a_iload_n i_Fr_nameOf_51 rfl ?_
        refine a_iconst i_Fr_nameOf_52 ?_
        obtain ⟨v20, σ20, e20, h⟩ := am_bd_some h
        refine am_cvd (rest := []) [.int x2, .int 4] c_Fr_nameOf_53 ⟨by decide, _, rfl⟩ rfl (Nat.le_of_ble_eq_true rfl) (t_En_valueOf e20) ?_
        refine a_l2i i_Fr_nameOf_56 ?_
        refine a_istore_n i_Fr_nameOf_57 rfl ?_
        refine a_iinc i_Fr_nameOf_58 rfl rfl ?_
        refine a_goto i_Fr_nameOf_61 ?_
        exact ih h
    · rw [if_neg c9] at h
      refine a_iff i_Fr_nameOf_19 c9 ?_
      refine a_aload_n i_Fr_nameOf_22 rfl ?_
      refine a_get (v := .ref 10) i_Fr_nameOf_23 rfl rfl ?_
      refine a_iload_n i_Fr_nameOf_26 rfl ?_
      refine a_iconst i_Fr_nameOf_27 ?_
      obtain ⟨v14, σ14, e14, h⟩ := am_bd_some h
      refine am_cvd (rest := []) [.int x2, .int 0] c_Fr_nameOf_28 ⟨by decide, _, rfl⟩ rfl (Nat.le_of_ble_eq_true rfl) (t_En_valueOf e14) ?_
      refine a_l2i i_Fr_nameOf_31 ?_
      exact am_ret_i ok_Fr_nameOf rfl rfl (am_lf_i h)
def g_Fr_nameOf (x1 : Int32) (σ : am_S) : Option (Int32 × am_S) :=
  g_Fr_nameOf_4 4000 x1 (0) σ
set_option maxHeartbeats 4000000 in
theorem t_Fr_nameOf_0 {x1 : Int32} {σ σ' : am_S} {r : Int32} (h : g_Fr_nameOf x1 σ = some (r, σ')) : am_A S_c M_Fr_nameOf (0, [some (.ref 58), some (.int x1), none, none], [], σ) (am_r S_c (fun q τ => q = some (.int r) ∧ τ = σ')) := by
  unfold g_Fr_nameOf at h
  refine a_iload_n i_Fr_nameOf_0 rfl ?_
  refine a_istore_n i_Fr_nameOf_1 rfl ?_
  refine a_iconst i_Fr_nameOf_2 ?_
  refine a_istore_n i_Fr_nameOf_3 rfl ?_
  exact am_wk (t_Fr_nameOf_4 4000 h) ⟨Or.inr rfl, Or.inl rfl, Or.inr rfl, Or.inr rfl, trivial⟩
theorem t_Fr_nameOf {x1 : Int32} {σ σ' : am_S} {r : Int32} (h : g_Fr_nameOf x1 σ = some (r, σ')) : am_Mt S_c M_Fr_nameOf [.ref 58, .int x1] σ (fun q τ => q = some (.int r) ∧ τ = σ') :=
  am_M_of ok_Fr_nameOf (Nat.le_of_ble_eq_true rfl) (t_Fr_nameOf_0 h)
def g_Fr_textEnd_31 (x2 : Int32) (σ : am_S) : Option (Int32 × am_S) :=
  some (x2, σ)
set_option maxHeartbeats 4000000 in
theorem t_Fr_textEnd_31 {x2 : Int32} {σ σ' : am_S} {r : Int32} (h : g_Fr_textEnd_31 x2 σ = some (r, σ')) : am_A S_c M_Fr_textEnd (31, [none, none, some (.int x2)], [], σ) (am_r S_c (fun q τ => q = some (.int r) ∧ τ = σ')) := by
  unfold g_Fr_textEnd_31 at h
  refine a_iload_n i_Fr_textEnd_31 rfl ?_
  exact am_ret_i ok_Fr_textEnd rfl rfl (am_lf_i h)
def g_Fr_textEnd_9 : Nat → Int32 → am_S → Option (Int32 × am_S)
  | 0, _, _ => none
  | n + 1, x2, σ =>
  if x2 < 3000 then
    am_gd (inb x2 3000) <|
    if (σ.2.1 1 x2.toNatClampNeg) = 0 then
      g_Fr_textEnd_31 x2 σ
    else
      g_Fr_textEnd_9 n (x2 + 1) σ
  else
    g_Fr_textEnd_31 x2 σ
set_option maxHeartbeats 4000000 in
theorem t_Fr_textEnd_9 : ∀ (n : Nat) {x2 : Int32} {σ σ' : am_S} {r : Int32} (h : g_Fr_textEnd_9 n x2 σ = some (r, σ')), am_A S_c M_Fr_textEnd (9, [some (.ref 58), none, some (.int x2)], [], σ) (am_r S_c (fun q τ => q = some (.int r) ∧ τ = σ')) := by
  intro n
  induction n with
  | zero =>
    intro x2 σ σ' r h
    cases h
  | succ n ih =>
  intro x2 σ σ' r h
  unfold g_Fr_textEnd_9 at h
  refine a_iload_n i_Fr_textEnd_9 rfl ?_
  refine a_sipush i_Fr_textEnd_10 ?_
  by_cases c3 : x2 < 3000
  · rw [if_pos c3] at h
    refine a_icf i_Fr_textEnd_13 (Int32.not_le.mpr c3) ?_
    refine a_aload_n i_Fr_textEnd_16 rfl ?_
    refine a_get (v := .ref 1) i_Fr_textEnd_17 rfl rfl ?_
    refine a_iload_n i_Fr_textEnd_20 rfl ?_
    obtain ⟨c7, h⟩ := gd_some h
    refine a_bal (n := 3000) i_Fr_textEnd_21 rfl rfl (inb_in c7) ?_
    by_cases c8 : (σ.2.1 1 x2.toNatClampNeg) = 0
    · rw [if_pos c8] at h
      refine a_ift i_Fr_textEnd_22 c8 ?_
      exact am_wk (t_Fr_textEnd_31 h) ⟨Or.inl rfl, Or.inl rfl, Or.inr rfl, trivial⟩
    · rw [if_neg c8] at h
      refine a_iff i_Fr_textEnd_22 c8 ?_
      refine a_iinc i_Fr_textEnd_25 rfl rfl ?_
      refine a_goto i_Fr_textEnd_28 ?_
      exact ih h
  · rw [if_neg c3] at h
    refine a_ict i_Fr_textEnd_13 (Int32.not_lt.mp c3) ?_
    exact am_wk (t_Fr_textEnd_31 h) ⟨Or.inl rfl, Or.inl rfl, Or.inr rfl, trivial⟩
def g_Fr_textEnd (x1 : Int32) (σ : am_S) : Option (Int32 × am_S) :=
  if x1 = (-1) then
    some ((-1), σ)
  else
    g_Fr_textEnd_9 4000 x1 σ
set_option maxHeartbeats 4000000 in
theorem t_Fr_textEnd_0 {x1 : Int32} {σ σ' : am_S} {r : Int32} (h : g_Fr_textEnd x1 σ = some (r, σ')) : am_A S_c M_Fr_textEnd (0, [some (.ref 58), some (.int x1), none], [], σ) (am_r S_c (fun q τ => q = some (.int r) ∧ τ = σ')) := by
  unfold g_Fr_textEnd at h
  refine a_iload_n i_Fr_textEnd_0 rfl ?_
  refine a_iconst i_Fr_textEnd_1 ?_
  by_cases c3 : x1 = (-1)
  · rw [if_pos c3] at h
    refine a_icf i_Fr_textEnd_2 c3 ?_
    refine a_iconst i_Fr_textEnd_5 ?_
    exact am_ret_i ok_Fr_textEnd rfl rfl (am_lf_i h)
  · rw [if_neg c3] at h
    refine a_ict i_Fr_textEnd_2 c3 ?_
    refine a_iload_n i_Fr_textEnd_7 rfl ?_
    refine a_istore_n i_Fr_textEnd_8 rfl ?_
    exact am_wk (t_Fr_textEnd_9 4000 h) ⟨Or.inr rfl, Or.inl rfl, Or.inr rfl, trivial⟩
theorem t_Fr_textEnd {x1 : Int32} {σ σ' : am_S} {r : Int32} (h : g_Fr_textEnd x1 σ = some (r, σ')) : am_Mt S_c M_Fr_textEnd [.ref 58, .int x1] σ (fun q τ => q = some (.int r) ∧ τ = σ') :=
  am_M_of ok_Fr_textEnd (Nat.le_of_ble_eq_true rfl) (t_Fr_textEnd_0 h)
def g_Fr_add (x1 : Int32) (x2 : Int32) (x3 : Int32) (σ : am_S) : Option (Unit × am_S) :=
  am_gd (inb (σ.1.1 58 11) 16) <|
  am_bd (g_Fr_textEnd x1 (am_ai σ 60 (σ.1.1 58 11).toNatClampNeg x1)) fun v13 σ13 =>
  am_gd (inb (σ.1.1 58 11) 16) <|
  am_gd (inb (σ13.1.1 58 11) 16) <|
  am_bd (g_Fr_textEnd x2 (am_ai (am_ai σ13 61 (σ.1.1 58 11).toNatClampNeg v13) 62 (σ13.1.1 58 11).toNatClampNeg x2)) fun v27 σ27 =>
  am_gd (inb (σ13.1.1 58 11) 16) <|
  am_gd (inb (σ27.1.1 58 11) 16) <|
  some ((), am_fi (am_ai (am_ai σ27 63 (σ13.1.1 58 11).toNatClampNeg v27) 64 (σ27.1.1 58 11).toNatClampNeg x3) 58 11 ((σ27.1.1 58 11) + 1))
set_option maxHeartbeats 4000000 in
theorem t_Fr_add_0 {x1 : Int32} {x2 : Int32} {x3 : Int32} {σ σ' : am_S} {r : Unit} (h : g_Fr_add x1 x2 x3 σ = some (r, σ')) : am_A S_c M_Fr_add (0, [some (.ref 58), some (.int x1), some (.int x2), some (.int x3)], [], σ) (am_r S_c (fun q τ => q = none ∧ τ = σ')) := by
  unfold g_Fr_add at h
  refine a_aload_n i_Fr_add_0 rfl ?_
  refine a_get (v := .ref 60) i_Fr_add_1 rfl rfl ?_
  refine a_aload_n i_Fr_add_4 rfl ?_
  refine a_get (v := .int (σ.1.1 58 11)) i_Fr_add_5 rfl rfl ?_
  refine a_iload_n i_Fr_add_8 rfl ?_
  obtain ⟨c6, h⟩ := gd_some h
  refine a_ias (n := 16) i_Fr_add_9 rfl rfl (inb_in c6) ?_
  refine a_aload_n i_Fr_add_10 rfl ?_
  refine a_get (v := .ref 61) i_Fr_add_11 rfl rfl ?_
  refine a_aload_n i_Fr_add_14 rfl ?_
  refine a_get (v := .int (σ.1.1 58 11)) i_Fr_add_15 rfl rfl ?_
  refine a_aload_n i_Fr_add_18 rfl ?_
  refine a_iload_n i_Fr_add_19 rfl ?_
  obtain ⟨v13, σ13, e13, h⟩ := am_bd_some h
  refine am_cvd (rest := [.int (σ.1.1 58 11), .ref 61]) [.int x1] c_Fr_add_20 ⟨by decide, _, rfl⟩ rfl (Nat.le_of_ble_eq_true rfl) (t_Fr_textEnd e13) ?_
  obtain ⟨c14, h⟩ := gd_some h
  refine a_ias (n := 16) i_Fr_add_23 rfl rfl (inb_in c14) ?_
  refine a_aload_n i_Fr_add_24 rfl ?_
  refine a_get (v := .ref 62) i_Fr_add_25 rfl rfl ?_
  refine a_aload_n i_Fr_add_28 rfl ?_
  refine a_get (v := .int (σ13.1.1 58 11)) i_Fr_add_29 rfl rfl ?_
  refine a_iload_n i_Fr_add_32 rfl ?_
  obtain ⟨c20, h⟩ := gd_some h
  refine a_ias (n := 16) i_Fr_add_33 rfl rfl (inb_in c20) ?_
  refine a_aload_n i_Fr_add_34 rfl ?_
  refine a_get (v := .ref 63) i_Fr_add_35 rfl rfl ?_
  refine a_aload_n i_Fr_add_38 rfl ?_
  refine a_get (v := .int (σ13.1.1 58 11)) i_Fr_add_39 rfl rfl ?_
  refine a_aload_n i_Fr_add_42 rfl ?_
  refine a_iload_n i_Fr_add_43 rfl ?_
  obtain ⟨v27, σ27, e27, h⟩ := am_bd_some h
  refine am_cvd (rest := [.int (σ13.1.1 58 11), .ref 63]) [.int x2] c_Fr_add_44 ⟨by decide, _, rfl⟩ rfl (Nat.le_of_ble_eq_true rfl) (t_Fr_textEnd e27) ?_
  obtain ⟨c28, h⟩ := gd_some h
  refine a_ias (n := 16) i_Fr_add_47 rfl rfl (inb_in c28) ?_
  refine a_aload_n i_Fr_add_48 rfl ?_
  refine a_get (v := .ref 64) i_Fr_add_49 rfl rfl ?_
  refine a_aload_n i_Fr_add_52 rfl ?_
  refine a_get (v := .int (σ27.1.1 58 11)) i_Fr_add_53 rfl rfl ?_
  refine a_iload_n i_Fr_add_56 rfl ?_
  obtain ⟨c34, h⟩ := gd_some h
  refine a_ias (n := 16) i_Fr_add_57 rfl rfl (inb_in c34) ?_
  refine a_aload_n i_Fr_add_58 rfl ?_
  refine a_dup_a i_Fr_add_59 ?_
  refine a_get (v := .int (σ27.1.1 58 11)) i_Fr_add_60 rfl rfl ?_
  refine a_iconst i_Fr_add_63 ?_
  refine a_iadd i_Fr_add_64 ?_
  refine a_puti i_Fr_add_65 rfl trivial ?_
  exact am_ret_v ok_Fr_add rfl rfl (am_lf_v h)
theorem t_Fr_add {x1 : Int32} {x2 : Int32} {x3 : Int32} {σ σ' : am_S} {r : Unit} (h : g_Fr_add x1 x2 x3 σ = some (r, σ')) : am_Mt S_c M_Fr_add [.ref 58, .int x1, .int x2, .int x3] σ (fun q τ => q = none ∧ τ = σ') :=
  am_M_of ok_Fr_add (Nat.le_of_ble_eq_true rfl) (t_Fr_add_0 h)
def g_Fr_addInnermost_81 (σ : am_S) : Option (Unit × am_S) :=
  some ((), σ)
set_option maxHeartbeats 4000000 in
theorem t_Fr_addInnermost_81 {σ σ' : am_S} {r : Unit} (h : g_Fr_addInnermost_81 σ = some (r, σ')) : am_A S_c M_Fr_addInnermost (81, [none, none, none, none, none, none], [], σ) (am_r S_c (fun q τ => q = none ∧ τ = σ')) := by
  unfold g_Fr_addInnermost_81 at h
  exact am_ret_v ok_Fr_addInnermost rfl rfl (am_lf_v h)
def g_Fr_addInnermost (x1 : Int32) (x2 : Int64) (σ : am_S) : Option (Unit × am_S) :=
  am_gd (inb x1 200) <|
  am_bd (g_Ro_rowOf (σ.2.1 13 x1.toNatClampNeg) x2 σ) fun v11 σ11 =>
  if v11 = (-1) then
    am_bd (g_Fr_nameOf x1 σ11) fun v19 σ19 =>
    am_bd (g_Fr_add v19 (-1) (0) σ19) fun _ σ22 =>
    g_Fr_addInnermost_81 σ22
  else
    am_bd (g_Fr_nameOf x1 σ11) fun v19 σ19 =>
    am_gd (inb v11 400) <|
    am_bd (g_Ro_nameOfFile (σ.2.1 13 x1.toNatClampNeg) (σ19.2.2 42 v11.toNatClampNeg) σ19) fun v28 σ28 =>
    am_gd (inb v11 400) <|
    am_bd (g_Fr_add v19 v28 (σ28.2.1 43 v11.toNatClampNeg) σ28) fun _ σ34 =>
    g_Fr_addInnermost_81 σ34
set_option maxHeartbeats 4000000 in
theorem t_Fr_addInnermost_0 {x1 : Int32} {x2 : Int64} {σ σ' : am_S} {r : Unit} (h : g_Fr_addInnermost x1 x2 σ = some (r, σ')) : am_A S_c M_Fr_addInnermost (0, [some (.ref 58), some (.int x1), some (.long x2), none, none, none], [], σ) (am_r S_c (fun q τ => q = none ∧ τ = σ')) := by
  unfold g_Fr_addInnermost at h
  refine a_aload_n i_Fr_addInnermost_0 rfl ?_
  refine a_get (v := .ref 10) i_Fr_addInnermost_1 rfl rfl ?_
  refine a_get (v := .ref 13) i_Fr_addInnermost_4 rfl rfl ?_
  refine a_iload_n i_Fr_addInnermost_7 rfl ?_
  obtain ⟨c5, h⟩ := gd_some h
  refine a_ial (n := 200) i_Fr_addInnermost_8 (by decide) rfl rfl (inb_in c5) ?_
  refine a_istore i_Fr_addInnermost_9 rfl ?_
  refine a_aload_n i_Fr_addInnermost_11 rfl ?_
  refine a_get (v := .ref 40) i_Fr_addInnermost_12 rfl rfl ?_
  refine a_iload i_Fr_addInnermost_15 rfl ?_
  refine a_lload_n i_Fr_addInnermost_17 rfl ?_
  obtain ⟨v11, σ11, e11, h⟩ := am_bd_some h
  refine am_cvd (rest := []) [.int (σ.2.1 13 x1.toNatClampNeg), .long x2] c_Fr_addInnermost_18 ⟨by decide, _, rfl⟩ rfl (Nat.le_of_ble_eq_true rfl) (t_Ro_rowOf e11) ?_
  refine a_istore i_Fr_addInnermost_21 rfl ?_
  refine a_iload i_Fr_addInnermost_23 rfl ?_
  refine a_iconst i_Fr_addInnermost_25 ?_
  by_cases c15 : v11 = (-1)
  · rw [if_pos c15] at h
    refine a_icf i_Fr_addInnermost_26 c15 ?_
    refine a_aload_n i_Fr_addInnermost_29 rfl ?_
    refine a_aload_n i_Fr_addInnermost_30 rfl ?_
    refine a_iload_n i_Fr_addInnermost_31 rfl ?_
    obtain ⟨v19, σ19, e19, h⟩ := am_bd_some h
    refine am_cvd (rest := [.ref 58]) [.int x1] c_Fr_addInnermost_32 ⟨by decide, _, rfl⟩ rfl (Nat.le_of_ble_eq_true rfl) (t_Fr_nameOf e19) ?_
    refine a_iconst i_Fr_addInnermost_35 ?_
    refine a_iconst i_Fr_addInnermost_36 ?_
    obtain ⟨v22, σ22, e22, h⟩ := am_bd_some h
    refine am_cvd (rest := []) [.int v19, .int (-1), .int 0] c_Fr_addInnermost_37 ⟨by decide, _, rfl⟩ rfl (Nat.le_of_ble_eq_true rfl) (t_Fr_add e22) ?_
    refine a_goto i_Fr_addInnermost_40 ?_
    exact am_wk (t_Fr_addInnermost_81 h) ⟨Or.inl rfl, Or.inl rfl, Or.inl rfl, Or.inl rfl, Or.inl rfl, Or.inl rfl, trivial⟩
  · rw [if_neg c15] at h
    refine a_ict i_Fr_addInnermost_26 c15 ?_
    refine a_aload_n i_Fr_addInnermost_43 rfl ?_
    refine a_aload_n i_Fr_addInnermost_44 rfl ?_
    refine a_iload_n i_Fr_addInnermost_45 rfl ?_
    obtain ⟨v19, σ19, e19, h⟩ := am_bd_some h
    refine am_cvd (rest := [.ref 58]) [.int x1] c_Fr_addInnermost_46 ⟨by decide, _, rfl⟩ rfl (Nat.le_of_ble_eq_true rfl) (t_Fr_nameOf e19) ?_
    refine a_aload_n i_Fr_addInnermost_49 rfl ?_
    refine a_get (v := .ref 40) i_Fr_addInnermost_50 rfl rfl ?_
    refine a_iload i_Fr_addInnermost_53 rfl ?_
    refine a_aload_n i_Fr_addInnermost_55 rfl ?_
    refine a_get (v := .ref 40) i_Fr_addInnermost_56 rfl rfl ?_
    refine a_get (v := .ref 42) i_Fr_addInnermost_59 rfl rfl ?_
    refine a_iload i_Fr_addInnermost_62 rfl ?_
    obtain ⟨c27, h⟩ := gd_some h
    refine a_lal (n := 400) i_Fr_addInnermost_64 rfl rfl (inb_in c27) ?_
    obtain ⟨v28, σ28, e28, h⟩ := am_bd_some h
    refine am_cvd (rest := [.int v19, .ref 58]) [.int (σ.2.1 13 x1.toNatClampNeg), .long (σ19.2.2 42 v11.toNatClampNeg)] c_Fr_addInnermost_65 ⟨by decide, _, rfl⟩ rfl (Nat.le_of_ble_eq_true rfl) (t_Ro_nameOfFile e28) ?_
    refine a_aload_n i_Fr_addInnermost_68 rfl ?_
    refine a_get (v := .ref 40) i_Fr_addInnermost_69 rfl rfl ?_
    refine a_get (v := .ref 43) i_Fr_addInnermost_72 rfl rfl ?_
    refine a_iload i_Fr_addInnermost_75 rfl ?_
    obtain ⟨c33, h⟩ := gd_some h
    refine a_ial (n := 400) i_Fr_addInnermost_77 (by decide) rfl rfl (inb_in c33) ?_
    obtain ⟨v34, σ34, e34, h⟩ := am_bd_some h
    refine am_cvd (rest := []) [.int v19, .int v28, .int (σ28.2.1 43 v11.toNatClampNeg)] c_Fr_addInnermost_78 ⟨by decide, _, rfl⟩ rfl (Nat.le_of_ble_eq_true rfl) (t_Fr_add e34) ?_
    exact am_wk (t_Fr_addInnermost_81 h) ⟨Or.inl rfl, Or.inl rfl, Or.inl rfl, Or.inl rfl, Or.inl rfl, Or.inl rfl, trivial⟩
theorem t_Fr_addInnermost {x1 : Int32} {x2 : Int64} {σ σ' : am_S} {r : Unit} (h : g_Fr_addInnermost x1 x2 σ = some (r, σ')) : am_Mt S_c M_Fr_addInnermost [.ref 58, .int x1, .long x2] σ (fun q τ => q = none ∧ τ = σ') :=
  am_M_of ok_Fr_addInnermost (Nat.le_of_ble_eq_true rfl) (t_Fr_addInnermost_0 h)
def g_Fr_addAround_81 (y0 : Int32) (y1 : Int32) (y2 : Int32) (σ : am_S) : Option (Unit × am_S) :=
  am_bd (g_Fr_add y2 y1 y0 σ) fun _ σ1 =>
  some ((), σ1)
set_option maxHeartbeats 4000000 in
theorem t_Fr_addAround_81 {y0 : Int32} {y1 : Int32} {y2 : Int32} {σ σ' : am_S} {r : Unit} (h : g_Fr_addAround_81 y0 y1 y2 σ = some (r, σ')) : am_A S_c M_Fr_addAround (81, [none, none, none, none, none], [.int y0, .int y1, .int y2, .ref 58], σ) (am_r S_c (fun q τ => q = none ∧ τ = σ')) := by
  unfold g_Fr_addAround_81 at h
  obtain ⟨v1, σ1, e1, h⟩ := am_bd_some h
  refine am_cvd (rest := []) [.int y2, .int y1, .int y0] c_Fr_addAround_81 ⟨by decide, _, rfl⟩ rfl (Nat.le_of_ble_eq_true rfl) (t_Fr_add e1) ?_
  exact am_ret_v ok_Fr_addAround rfl rfl (am_lf_v h)
def g_Fr_addAround_43 (x1 : Int32) (x2 : Int32) (y0 : Int32) (σ : am_S) : Option (Unit × am_S) :=
  am_bd (g_Fr_nameOf x1 σ) fun v5 σ5 =>
  am_bd (g_En_has x2 (6) σ5) fun v11 σ11 =>
  if v11 = 0 then
    g_Fr_addAround_81 (0) y0 v5 σ11
  else
    am_bd (g_En_valueOf x2 (6) σ11) fun v17 σ17 =>
    g_Fr_addAround_81 v17.toInt32 y0 v5 σ17
set_option maxHeartbeats 4000000 in
theorem t_Fr_addAround_43 {x1 : Int32} {x2 : Int32} {y0 : Int32} {σ σ' : am_S} {r : Unit} (h : g_Fr_addAround_43 x1 x2 y0 σ = some (r, σ')) : am_A S_c M_Fr_addAround (43, [some (.ref 58), some (.int x1), some (.int x2), none, none], [.int y0], σ) (am_r S_c (fun q τ => q = none ∧ τ = σ')) := by
  unfold g_Fr_addAround_43 at h
  refine a_istore i_Fr_addAround_43 rfl ?_
  refine a_aload_n i_Fr_addAround_45 rfl ?_
  refine a_aload_n i_Fr_addAround_46 rfl ?_
  refine a_iload_n i_Fr_addAround_47 rfl ?_
  obtain ⟨v5, σ5, e5, h⟩ := am_bd_some h
  refine am_cvd (rest := [.ref 58]) [.int x1] c_Fr_addAround_48 ⟨by decide, _, rfl⟩ rfl (Nat.le_of_ble_eq_true rfl) (t_Fr_nameOf e5) ?_
  refine a_iload i_Fr_addAround_51 rfl ?_
  refine a_aload_n i_Fr_addAround_53 rfl ?_
  refine a_get (v := .ref 10) i_Fr_addAround_54 rfl rfl ?_
  refine a_iload_n i_Fr_addAround_57 rfl ?_
  refine a_bipush i_Fr_addAround_58 ?_
  obtain ⟨v11, σ11, e11, h⟩ := am_bd_some h
  refine am_cvd (rest := [.int y0, .int v5, .ref 58]) [.int x2, .int 6] c_Fr_addAround_60 ⟨by decide, _, rfl⟩ rfl (Nat.le_of_ble_eq_true rfl) (t_En_has e11) ?_
  by_cases c12 : v11 = 0
  · rw [if_pos c12] at h
    refine a_ift i_Fr_addAround_63 c12 ?_
    refine a_iconst i_Fr_addAround_80 ?_
    exact am_wk (t_Fr_addAround_81 h) ⟨Or.inl rfl, Or.inl rfl, Or.inl rfl, Or.inl rfl, Or.inl rfl, trivial⟩
  · rw [if_neg c12] at h
    refine a_iff i_Fr_addAround_63 c12 ?_
    refine a_aload_n i_Fr_addAround_66 rfl ?_
    refine a_get (v := .ref 10) i_Fr_addAround_67 rfl rfl ?_
    refine a_iload_n i_Fr_addAround_70 rfl ?_
    refine a_bipush i_Fr_addAround_71 ?_
    obtain ⟨v17, σ17, e17, h⟩ := am_bd_some h
    refine am_cvd (rest := [.int y0, .int v5, .ref 58]) [.int x2, .int 6] c_Fr_addAround_73 ⟨by decide, _, rfl⟩ rfl (Nat.le_of_ble_eq_true rfl) (t_En_valueOf e17) ?_
    refine a_l2i i_Fr_addAround_76 ?_
    refine a_goto i_Fr_addAround_77 ?_
    exact am_wk (t_Fr_addAround_81 h) ⟨Or.inl rfl, Or.inl rfl, Or.inl rfl, Or.inl rfl, Or.inl rfl, trivial⟩
def g_Fr_addAround (x1 : Int32) (x2 : Int32) (σ : am_S) : Option (Unit × am_S) :=
  am_bd (g_En_has x2 (5) σ) fun v5 σ5 =>
  if v5 = 0 then
    g_Fr_addAround_43 x1 x2 (-1) σ5
  else
    am_gd (inb x1 200) <|
    am_bd (g_En_valueOf x2 (5) σ5) fun v20 σ20 =>
    am_bd (g_Ro_nameOfFile (σ5.2.1 13 x1.toNatClampNeg) v20 σ20) fun v21 σ21 =>
    g_Fr_addAround_43 x1 x2 v21 σ21
set_option maxHeartbeats 4000000 in
theorem t_Fr_addAround_0 {x1 : Int32} {x2 : Int32} {σ σ' : am_S} {r : Unit} (h : g_Fr_addAround x1 x2 σ = some (r, σ')) : am_A S_c M_Fr_addAround (0, [some (.ref 58), some (.int x1), some (.int x2), none, none], [], σ) (am_r S_c (fun q τ => q = none ∧ τ = σ')) := by
  unfold g_Fr_addAround at h
  refine a_aload_n i_Fr_addAround_0 rfl ?_
  refine a_get (v := .ref 10) i_Fr_addAround_1 rfl rfl ?_
  refine a_iload_n i_Fr_addAround_4 rfl ?_
  refine a_iconst i_Fr_addAround_5 ?_
  obtain ⟨v5, σ5, e5, h⟩ := am_bd_some h
  refine am_cvd (rest := []) [.int x2, .int 5] c_Fr_addAround_6 ⟨by decide, _, rfl⟩ rfl (Nat.le_of_ble_eq_true rfl) (t_En_has e5) ?_
  refine a_istore_n i_Fr_addAround_9 rfl ?_
  refine a_iload_n i_Fr_addAround_10 rfl ?_
  by_cases c8 : v5 = 0
  · rw [if_pos c8] at h
    refine a_ift i_Fr_addAround_11 c8 ?_
    refine a_iconst i_Fr_addAround_42 ?_
    exact am_wk (t_Fr_addAround_43 h) ⟨Or.inr rfl, Or.inr rfl, Or.inr rfl, Or.inl rfl, Or.inl rfl, trivial⟩
  · rw [if_neg c8] at h
    refine a_iff i_Fr_addAround_11 c8 ?_
    refine a_aload_n i_Fr_addAround_14 rfl ?_
    refine a_get (v := .ref 40) i_Fr_addAround_15 rfl rfl ?_
    refine a_aload_n i_Fr_addAround_18 rfl ?_
    refine a_get (v := .ref 10) i_Fr_addAround_19 rfl rfl ?_
    refine a_get (v := .ref 13) i_Fr_addAround_22 rfl rfl ?_
    refine a_iload_n i_Fr_addAround_25 rfl ?_
    obtain ⟨c15, h⟩ := gd_some h
    refine a_ial (n := 200) i_Fr_addAround_26 (by decide) rfl rfl (inb_in c15) ?_
    refine a_aload_n i_Fr_addAround_27 rfl ?_
    refine a_get (v := .ref 10) i_Fr_addAround_28 rfl rfl ?_
    refine a_iload_n i_Fr_addAround_31 rfl ?_
    refine a_iconst i_Fr_addAround_32 ?_
    obtain ⟨v20, σ20, e20, h⟩ := am_bd_some h
    refine am_cvd (rest := [.int (σ5.2.1 13 x1.toNatClampNeg), .ref 40]) [.int x2, .int 5] c_Fr_addAround_33 ⟨by decide, _, rfl⟩ rfl (Nat.le_of_ble_eq_true rfl) (t_En_valueOf e20) ?_
    obtain ⟨v21, σ21, e21, h⟩ := am_bd_some h
    refine am_cvd (rest := []) [.int (σ5.2.1 13 x1.toNatClampNeg), .long v20] c_Fr_addAround_36 ⟨by decide, _, rfl⟩ rfl (Nat.le_of_ble_eq_true rfl) (t_Ro_nameOfFile e21) ?_
    refine a_goto i_Fr_addAround_39 ?_
    exact am_wk (t_Fr_addAround_43 h) ⟨Or.inr rfl, Or.inr rfl, Or.inr rfl, Or.inl rfl, Or.inl rfl, trivial⟩
theorem t_Fr_addAround {x1 : Int32} {x2 : Int32} {σ σ' : am_S} {r : Unit} (h : g_Fr_addAround x1 x2 σ = some (r, σ')) : am_Mt S_c M_Fr_addAround [.ref 58, .int x1, .int x2] σ (fun q τ => q = none ∧ τ = σ') :=
  am_M_of ok_Fr_addAround (Nat.le_of_ble_eq_true rfl) (t_Fr_addAround_0 h)
