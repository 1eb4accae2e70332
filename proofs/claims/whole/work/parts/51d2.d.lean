def g_Ra_add (x1 : Int64) (x3 : Int64) (σ : am_S) : Option (Int32 × am_S) :=
  if (σ.1.1 32 4) = 300 then
    some (0, σ)
  else
    am_gd (inb (σ.1.1 32 4) 300) <|
    am_gd (inb (σ.1.1 32 4) 300) <|
    some (1, am_fi (am_al (am_al σ 33 (σ.1.1 32 4).toNatClampNeg x1) 34 (σ.1.1 32 4).toNatClampNeg x3) 32 4 ((σ.1.1 32 4) + 1))
set_option maxHeartbeats 4000000 in
theorem t_Ra_add_0 {x1 : Int64} {x3 : Int64} {σ σ' : am_S} {r : Int32} (h : g_Ra_add x1 x3 σ = some (r, σ')) : am_A S_c M_Ra_add (0, [some (.ref 32), some (.long x1), none, some (.long x3), none], [], σ) (am_r S_c (fun q τ => q = some (.int r) ∧ τ = σ')) := by
  unfold g_Ra_add at h
  refine a_aload_n i_Ra_add_0 rfl ?_
  refine a_get (v := .int (σ.1.1 32 4)) i_Ra_add_1 rfl rfl ?_
  refine a_sipush i_Ra_add_4 ?_
  by_cases c4 : (σ.1.1 32 4) = 300
  · rw [if_pos c4] at h
    refine a_icf i_Ra_add_7 c4 ?_
    refine a_iconst i_Ra_add_10 ?_
    exact am_ret_z ok_Ra_add rfl rfl (Or.inl rfl) (am_lf_i h)
  · rw [if_neg c4] at h
    refine a_ict i_Ra_add_7 c4 ?_
    refine a_aload_n i_Ra_add_12 rfl ?_
    refine a_get (v := .ref 33) i_Ra_add_13 rfl rfl ?_
    refine a_aload_n i_Ra_add_16 rfl ?_
    refine a_get (v := .int (σ.1.1 32 4)) i_Ra_add_17 rfl rfl ?_
    refine a_lload_n i_Ra_add_20 rfl ?_
    obtain ⟨c10, h⟩ := gd_some h
    refine a_las (n := 300) i_Ra_add_21 rfl rfl (inb_in c10) ?_
    refine a_aload_n i_Ra_add_22 rfl ?_
    refine a_get (v := .ref 34) i_Ra_add_23 rfl rfl ?_
    refine a_aload_n i_Ra_add_26 rfl ?_
    refine a_get (v := .int (σ.1.1 32 4)) i_Ra_add_27 rfl rfl ?_
    refine a_lload_n i_Ra_add_30 rfl ?_
    obtain ⟨c16, h⟩ := gd_some h
    refine a_las (n := 300) i_Ra_add_31 rfl rfl (inb_in c16) ?_
    refine a_aload_n i_Ra_add_32 rfl ?_
    refine a_dup_a i_Ra_add_33 ?_
    refine a_get (v := .int (σ.1.1 32 4)) i_Ra_add_34 rfl rfl ?_
    refine a_iconst i_Ra_add_37 ?_
    refine a_iadd i_Ra_add_38 ?_
    refine a_puti i_Ra_add_39 rfl trivial ?_
    refine a_iconst i_Ra_add_42 ?_
    exact am_ret_z ok_Ra_add rfl rfl (Or.inr rfl) (am_lf_i h)
theorem t_Ra_add {x1 : Int64} {x3 : Int64} {σ σ' : am_S} {r : Int32} (h : g_Ra_add x1 x3 σ = some (r, σ')) : am_Mt S_c M_Ra_add [.ref 32, .long x1, .long x3] σ (fun q τ => q = some (.int r) ∧ τ = σ') :=
  am_M_of ok_Ra_add (Nat.le_of_ble_eq_true rfl) (t_Ra_add_0 h)
def g_Ra_hold_49 (go : Int32 → Int64 → Int32 → am_S → Option (Int32 × am_S)) (x1 : Int32) (x2 : Int64) (x4 : Int32) (σ : am_S) : Option (Int32 × am_S) :=
  go x1 x2 (x4 + 1) σ
set_option maxHeartbeats 4000000 in
theorem t_Ra_hold_49 {x1 : Int32} {x2 : Int64} {x4 : Int32} {σ σ' : am_S} {r : Int32} {go : Int32 → Int64 → Int32 → am_S → Option (Int32 × am_S)} (hgo : ∀ {x1 : Int32} {x2 : Int64} {x4 : Int32} {σ σ' : am_S} {r : Int32}, go x1 x2 x4 σ = some (r, σ') → am_A S_c M_Ra_hold (8, [some (.ref 32), some (.int x1), some (.long x2), none, some (.int x4)], [], σ) (am_r S_c (fun q τ => q = some (.int r) ∧ τ = σ'))) (h : g_Ra_hold_49 go x1 x2 x4 σ = some (r, σ')) : am_A S_c M_Ra_hold (49, [some (.ref 32), some (.int x1), some (.long x2), none, some (.int x4)], [], σ) (am_r S_c (fun q τ => q = some (.int r) ∧ τ = σ')) := by
  unfold g_Ra_hold_49 at h
  refine a_iinc i_Ra_hold_49 rfl rfl ?_
  refine a_goto i_Ra_hold_52 ?_
  exact hgo h
def g_Ra_hold_8 : Nat → Int32 → Int64 → Int32 → am_S → Option (Int32 × am_S)
  | 0, _, _, _, _ => none
  | n + 1, x1, x2, x4, σ =>
  am_gd (inb x1 200) <|
  if x4 < (σ.2.1 36 x1.toNatClampNeg) then
    am_gd (inb x4 300) <|
    am_bd (g_F_isBelow x2 (σ.2.2 33 x4.toNatClampNeg) σ) fun v12 σ12 =>
    if v12 = 0 then
      am_gd (inb x4 300) <|
      am_bd (g_F_isBelow x2 (σ12.2.2 34 x4.toNatClampNeg) σ12) fun v19 σ19 =>
      if v19 = 0 then
        g_Ra_hold_49 (g_Ra_hold_8 n) x1 x2 x4 σ19
      else
        some (1, σ19)
    else
      g_Ra_hold_49 (g_Ra_hold_8 n) x1 x2 x4 σ12
  else
    some (0, σ)
set_option maxHeartbeats 4000000 in
theorem t_Ra_hold_8 : ∀ (n : Nat) {x1 : Int32} {x2 : Int64} {x4 : Int32} {σ σ' : am_S} {r : Int32} (h : g_Ra_hold_8 n x1 x2 x4 σ = some (r, σ')), am_A S_c M_Ra_hold (8, [some (.ref 32), some (.int x1), some (.long x2), none, some (.int x4)], [], σ) (am_r S_c (fun q τ => q = some (.int r) ∧ τ = σ')) := by
  intro n
  induction n with
  | zero =>
    intro x1 x2 x4 σ σ' r h
    cases h
  | succ n ih =>
  intro x1 x2 x4 σ σ' r h
  unfold g_Ra_hold_8 at h
  refine a_iload i_Ra_hold_8 rfl ?_
  refine a_aload_n i_Ra_hold_10 rfl ?_
  refine a_get (v := .ref 36) i_Ra_hold_11 rfl rfl ?_
  refine a_iload_n i_Ra_hold_14 rfl ?_
  obtain ⟨c5, h⟩ := gd_some h
  refine a_ial (n := 200) i_Ra_hold_15 (by decide) rfl rfl (inb_in c5) ?_
  by_cases c6 : x4 < (σ.2.1 36 x1.toNatClampNeg)
  · rw [if_pos c6] at h
    refine a_icf i_Ra_hold_16 (Int32.not_le.mpr c6) ?_
    refine a_lload_n i_Ra_hold_19 rfl ?_
    refine a_aload_n i_Ra_hold_20 rfl ?_
    refine a_get (v := .ref 33) i_Ra_hold_21 rfl rfl ?_
    refine a_iload i_Ra_hold_24 rfl ?_
    obtain ⟨c11, h⟩ := gd_some h
    refine a_lal (n := 300) i_Ra_hold_26 rfl rfl (inb_in c11) ?_
    obtain ⟨v12, σ12, e12, h⟩ := am_bd_some h
    refine am_csd (rest := []) [.long x2, .long (σ.2.2 33 x4.toNatClampNeg)] c_Ra_hold_27 rfl (Nat.le_of_ble_eq_true rfl) (t_F_isBelow e12) ?_
    by_cases c13 : v12 = 0
    · rw [if_pos c13] at h
      refine a_iff i_Ra_hold_30 c13 ?_
      refine a_lload_n i_Ra_hold_33 rfl ?_
      refine a_aload_n i_Ra_hold_34 rfl ?_
      refine a_get (v := .ref 34) i_Ra_hold_35 rfl rfl ?_
      refine a_iload i_Ra_hold_38 rfl ?_
      obtain ⟨c18, h⟩ := gd_some h
      refine a_lal (n := 300) i_Ra_hold_40 rfl rfl (inb_in c18) ?_
      obtain ⟨v19, σ19, e19, h⟩ := am_bd_some h
      refine am_csd (rest := []) [.long x2, .long (σ12.2.2 34 x4.toNatClampNeg)] c_Ra_hold_41 rfl (Nat.le_of_ble_eq_true rfl) (t_F_isBelow e19) ?_
      by_cases c20 : v19 = 0
      · rw [if_pos c20] at h
        refine a_ift i_Ra_hold_44 c20 ?_
        exact t_Ra_hold_49 (fun h => ih h) h
      · rw [if_neg c20] at h
        refine a_iff i_Ra_hold_44 c20 ?_
        refine a_iconst i_Ra_hold_47 ?_
        exact am_ret_z ok_Ra_hold rfl rfl (Or.inr rfl) (am_lf_i h)
    · rw [if_neg c13] at h
      refine a_ift i_Ra_hold_30 c13 ?_
      exact t_Ra_hold_49 (fun h => ih h) h
  · rw [if_neg c6] at h
    refine a_ict i_Ra_hold_16 (Int32.not_lt.mp c6) ?_
    refine a_iconst i_Ra_hold_55 ?_
    exact am_ret_z ok_Ra_hold rfl rfl (Or.inl rfl) (am_lf_i h)
def g_Ra_hold (x1 : Int32) (x2 : Int64) (σ : am_S) : Option (Int32 × am_S) :=
  am_gd (inb x1 200) <|
  g_Ra_hold_8 4000 x1 x2 (σ.2.1 35 x1.toNatClampNeg) σ
set_option maxHeartbeats 4000000 in
theorem t_Ra_hold_0 {x1 : Int32} {x2 : Int64} {σ σ' : am_S} {r : Int32} (h : g_Ra_hold x1 x2 σ = some (r, σ')) : am_A S_c M_Ra_hold (0, [some (.ref 32), some (.int x1), some (.long x2), none, none], [], σ) (am_r S_c (fun q τ => q = some (.int r) ∧ τ = σ')) := by
  unfold g_Ra_hold at h
  refine a_aload_n i_Ra_hold_0 rfl ?_
  refine a_get (v := .ref 35) i_Ra_hold_1 rfl rfl ?_
  refine a_iload_n i_Ra_hold_4 rfl ?_
  obtain ⟨c4, h⟩ := gd_some h
  refine a_ial (n := 200) i_Ra_hold_5 (by decide) rfl rfl (inb_in c4) ?_
  refine a_istore i_Ra_hold_6 rfl ?_
  exact t_Ra_hold_8 4000 h
theorem t_Ra_hold {x1 : Int32} {x2 : Int64} {σ σ' : am_S} {r : Int32} (h : g_Ra_hold x1 x2 σ = some (r, σ')) : am_Mt S_c M_Ra_hold [.ref 32, .int x1, .long x2] σ (fun q τ => q = some (.int r) ∧ τ = σ') :=
  am_M_of ok_Ra_hold (Nat.le_of_ble_eq_true rfl) (t_Ra_hold_0 h)
def g_Va_wrong (σ : am_S) : Option (Int64 × am_S) :=
  some (0, am_fi σ 37 6 1)
set_option maxHeartbeats 4000000 in
theorem t_Va_wrong_0 {σ σ' : am_S} {r : Int64} (h : g_Va_wrong σ = some (r, σ')) : am_A S_c M_Va_wrong (0, [some (.ref 37)], [], σ) (am_r S_c (fun q τ => q = some (.long r) ∧ τ = σ')) := by
  unfold g_Va_wrong at h
  refine a_aload_n i_Va_wrong_0 rfl ?_
  refine a_iconst i_Va_wrong_1 ?_
  refine a_puti i_Va_wrong_2 rfl (Or.inr rfl) ?_
  refine a_lconst i_Va_wrong_5 ?_
  exact am_ret_l ok_Va_wrong rfl rfl (am_lf_l h)
theorem t_Va_wrong {σ σ' : am_S} {r : Int64} (h : g_Va_wrong σ = some (r, σ')) : am_Mt S_c M_Va_wrong [.ref 37] σ (fun q τ => q = some (.long r) ∧ τ = σ') :=
  am_M_of ok_Va_wrong (Nat.le_of_ble_eq_true rfl) (t_Va_wrong_0 h)
def g_Va_textAt_27 (y0 : Int64) (σ : am_S) : Option (Int64 × am_S) :=
  some (y0, σ)
set_option maxHeartbeats 4000000 in
theorem t_Va_textAt_27 {y0 : Int64} {σ σ' : am_S} {r : Int64} (h : g_Va_textAt_27 y0 σ = some (r, σ')) : am_A S_c M_Va_textAt (27, [none, none, none, none, none], [.long y0], σ) (am_r S_c (fun q τ => q = some (.long r) ∧ τ = σ')) := by
  unfold g_Va_textAt_27 at h
  exact am_ret_l ok_Va_textAt rfl rfl (am_lf_l h)
def g_Va_textAt (x1 : Int32) (x2 : Int64) (σ : am_S) : Option (Int64 × am_S) :=
  am_bd (g_Se_textAt x1 x2 σ) fun v5 σ5 =>
  if v5 = (-1) then
    am_bd (g_Va_wrong σ5) fun v11 σ11 =>
    g_Va_textAt_27 v11 σ11
  else
    g_Va_textAt_27 v5.toInt64 σ5
set_option maxHeartbeats 4000000 in
theorem t_Va_textAt_0 {x1 : Int32} {x2 : Int64} {σ σ' : am_S} {r : Int64} (h : g_Va_textAt x1 x2 σ = some (r, σ')) : am_A S_c M_Va_textAt (0, [some (.ref 37), some (.int x1), some (.long x2), none, none], [], σ) (am_r S_c (fun q τ => q = some (.long r) ∧ τ = σ')) := by
  unfold g_Va_textAt at h
  refine a_aload_n i_Va_textAt_0 rfl ?_
  refine a_get (v := .ref 2) i_Va_textAt_1 rfl rfl ?_
  refine a_iload_n i_Va_textAt_4 rfl ?_
  refine a_lload_n i_Va_textAt_5 rfl ?_
  obtain ⟨v5, σ5, e5, h⟩ := am_bd_some h
  refine am_cvd (rest := []) [.int x1, .long x2] c_Va_textAt_6 ⟨by decide, _, rfl⟩ rfl (Nat.le_of_ble_eq_true rfl) (t_Se_textAt e5) ?_
  refine a_istore i_Va_textAt_9 rfl ?_
  refine a_iload i_Va_textAt_11 rfl ?_
  refine a_iconst i_Va_textAt_13 ?_
  by_cases c9 : v5 = (-1)
  · rw [if_pos c9] at h
    refine a_icf i_Va_textAt_14 c9 ?_
    refine a_aload_n i_Va_textAt_17 rfl ?_
    obtain ⟨v11, σ11, e11, h⟩ := am_bd_some h
    refine am_cvd (rest := []) [] c_Va_textAt_18 ⟨by decide, _, rfl⟩ rfl (Nat.le_of_ble_eq_true rfl) (t_Va_wrong e11) ?_
    refine a_goto i_Va_textAt_21 ?_
    exact am_wk (t_Va_textAt_27 h) ⟨Or.inl rfl, Or.inl rfl, Or.inl rfl, Or.inl rfl, Or.inl rfl, trivial⟩
  · rw [if_neg c9] at h
    refine a_ict i_Va_textAt_14 c9 ?_
    refine a_iload i_Va_textAt_24 rfl ?_
    refine a_i2l i_Va_textAt_26 ?_
    exact am_wk (t_Va_textAt_27 h) ⟨Or.inl rfl, Or.inl rfl, Or.inl rfl, Or.inl rfl, Or.inl rfl, trivial⟩
theorem t_Va_textAt {x1 : Int32} {x2 : Int64} {σ σ' : am_S} {r : Int64} (h : g_Va_textAt x1 x2 σ = some (r, σ')) : am_Mt S_c M_Va_textAt [.ref 37, .int x1, .long x2] σ (fun q τ => q = some (.long r) ∧ τ = σ') :=
  am_M_of ok_Va_textAt (Nat.le_of_ble_eq_true rfl) (t_Va_textAt_0 h)
def g_Va_baseOf (x1 : Int32) (x2 : Int32) (σ : am_S) : Option (Int64 × am_S) :=
  am_gd (inb ((x1 * 4) + x2) 16) <|
  some (σ.2.2 20 ((x1 * 4) + x2).toNatClampNeg, σ)
set_option maxHeartbeats 4000000 in
theorem t_Va_baseOf_0 {x1 : Int32} {x2 : Int32} {σ σ' : am_S} {r : Int64} (h : g_Va_baseOf x1 x2 σ = some (r, σ')) : am_A S_c M_Va_baseOf (0, [some (.ref 37), some (.int x1), some (.int x2)], [], σ) (am_r S_c (fun q τ => q = some (.long r) ∧ τ = σ')) := by
  unfold g_Va_baseOf at h
  refine a_aload_n i_Va_baseOf_0 rfl ?_
  refine a_get (v := .ref 10) i_Va_baseOf_1 rfl rfl ?_
  refine a_get (v := .ref 20) i_Va_baseOf_4 rfl rfl ?_
  refine a_iload_n i_Va_baseOf_7 rfl ?_
  refine a_iconst i_Va_baseOf_8 ?_
  refine a_imul i_Va_baseOf_9 ?_
  refine a_iload_n i_Va_baseOf_10 rfl ?_
  refine a_iadd i_Va_baseOf_11 ?_
  obtain ⟨c9, h⟩ := gd_some h
  refine a_lal (n := 16) i_Va_baseOf_12 rfl rfl (inb_in c9) ?_
  exact am_ret_l ok_Va_baseOf rfl rfl (am_lf_l h)
theorem t_Va_baseOf {x1 : Int32} {x2 : Int32} {σ σ' : am_S} {r : Int64} (h : g_Va_baseOf x1 x2 σ = some (r, σ')) : am_Mt S_c M_Va_baseOf [.ref 37, .int x1, .int x2] σ (fun q τ => q = some (.long r) ∧ τ = σ') :=
  am_M_of ok_Va_baseOf (Nat.le_of_ble_eq_true rfl) (t_Va_baseOf_0 h)
def g_Va_numberAt_16 (σ : am_S) : Option (Int64 × am_S) :=
  am_bd (g_Va_wrong σ) fun v2 σ2 =>
  some (v2, σ2)
set_option maxHeartbeats 4000000 in
theorem t_Va_numberAt_16 {σ σ' : am_S} {r : Int64} (h : g_Va_numberAt_16 σ = some (r, σ')) : am_A S_c M_Va_numberAt (16, [some (.ref 37), none, none, none, none, none, none, none, none], [], σ) (am_r S_c (fun q τ => q = some (.long r) ∧ τ = σ')) := by
  unfold g_Va_numberAt_16 at h
  refine a_aload_n i_Va_numberAt_16 rfl ?_
  obtain ⟨v2, σ2, e2, h⟩ := am_bd_some h
  refine am_cvd (rest := []) [] c_Va_numberAt_17 ⟨by decide, _, rfl⟩ rfl (Nat.le_of_ble_eq_true rfl) (t_Va_wrong e2) ?_
  exact am_ret_l ok_Va_numberAt rfl rfl (am_lf_l h)
def g_Va_numberAt_75 (x7 : Int64) (y0 : Int32) (σ : am_S) : Option (Int64 × am_S) :=
  am_gd (z01 y0) <|
  some (x7, am_fi σ 37 6 y0)
set_option maxHeartbeats 4000000 in
theorem t_Va_numberAt_75 {x7 : Int64} {y0 : Int32} {σ σ' : am_S} {r : Int64} (h : g_Va_numberAt_75 x7 y0 σ = some (r, σ')) : am_A S_c M_Va_numberAt (75, [none, none, none, none, none, none, none, some (.long x7), none], [.int y0, .ref 37], σ) (am_r S_c (fun q τ => q = some (.long r) ∧ τ = σ')) := by
  unfold g_Va_numberAt_75 at h
  obtain ⟨c1, h⟩ := gd_some h
  refine a_puti i_Va_numberAt_75 rfl (z01_or c1) ?_
  refine a_lload i_Va_numberAt_78 rfl ?_
  exact am_ret_l ok_Va_numberAt rfl rfl (am_lf_l h)
def g_Va_numberAt_70 (x7 : Int64) (σ : am_S) : Option (Int64 × am_S) :=
  g_Va_numberAt_75 x7 (1) σ
set_option maxHeartbeats 4000000 in
theorem t_Va_numberAt_70 {x7 : Int64} {σ σ' : am_S} {r : Int64} (h : g_Va_numberAt_70 x7 σ = some (r, σ')) : am_A S_c M_Va_numberAt (70, [none, none, none, none, none, none, none, some (.long x7), none], [.ref 37], σ) (am_r S_c (fun q τ => q = some (.long r) ∧ τ = σ')) := by
  unfold g_Va_numberAt_70 at h
  refine a_iconst i_Va_numberAt_70 ?_
  refine a_goto i_Va_numberAt_71 ?_
  exact t_Va_numberAt_75 h
def g_Va_numberAt (x1 : Int32) (x2 : Int64) (x4 : Int64) (x6 : Int32) (σ : am_S) : Option (Int64 × am_S) :=
  if (lg_cmp x4 0) < 0 then
    g_Va_numberAt_16 σ
  else
    if 0 < (lg_cmp x4 3000) then
      g_Va_numberAt_16 σ
    else
      am_bd (g_Se_point 39 x1 (x2 + (x4 * x6.toInt64)) σ) fun _ σ20 =>
      am_bd (g_Cu_number 39 x6 σ20) fun v24 σ24 =>
      if (σ24.1.1 37 6) = 0 then
        if (σ24.1.1 39 3) = 0 then
          g_Va_numberAt_75 v24 (0) σ24
        else
          g_Va_numberAt_70 v24 σ24
      else
        g_Va_numberAt_70 v24 σ24
set_option maxHeartbeats 4000000 in
theorem t_Va_numberAt_0 {x1 : Int32} {x2 : Int64} {x4 : Int64} {x6 : Int32} {σ σ' : am_S} {r : Int64} (h : g_Va_numberAt x1 x2 x4 x6 σ = some (r, σ')) : am_A S_c M_Va_numberAt (0, [some (.ref 37), some (.int x1), some (.long x2), none, some (.long x4), none, some (.int x6), none, none], [], σ) (am_r S_c (fun q τ => q = some (.long r) ∧ τ = σ')) := by
  unfold g_Va_numberAt at h
  refine a_lload i_Va_numberAt_0 rfl ?_
  refine a_lconst i_Va_numberAt_2 ?_
  refine a_lcmp i_Va_numberAt_3 ?_
  by_cases c4 : (lg_cmp x4 0) < 0
  · rw [if_pos c4] at h
    refine a_ift i_Va_numberAt_4 c4 ?_
    exact am_wk (t_Va_numberAt_16 h) ⟨Or.inr rfl, Or.inl rfl, Or.inl rfl, Or.inl rfl, Or.inl rfl, Or.inl rfl, Or.inl rfl, Or.inl rfl, Or.inl rfl, trivial⟩
  · rw [if_neg c4] at h
    refine a_iff i_Va_numberAt_4 c4 ?_
    refine a_lload i_Va_numberAt_7 rfl ?_
    refine a_ldc2 i_Va_numberAt_9 ?_
    refine a_lcmp i_Va_numberAt_12 ?_
    by_cases c8 : 0 < (lg_cmp x4 3000)
    · rw [if_pos c8] at h
      refine a_iff i_Va_numberAt_13 (Int32.not_le.mpr c8) ?_
      exact am_wk (t_Va_numberAt_16 h) ⟨Or.inr rfl, Or.inl rfl, Or.inl rfl, Or.inl rfl, Or.inl rfl, Or.inl rfl, Or.inl rfl, Or.inl rfl, Or.inl rfl, trivial⟩
    · rw [if_neg c8] at h
      refine a_ift i_Va_numberAt_13 (Int32.not_lt.mp c8) ?_
      refine a_aload_n i_Va_numberAt_21 rfl ?_
      refine a_get (v := .ref 2) i_Va_numberAt_22 rfl rfl ?_
      refine a_aload_n i_Va_numberAt_25 rfl ?_
      refine a_get (v := .ref 39) i_Va_numberAt_26 rfl rfl ?_
      refine a_iload_n i_Va_numberAt_29 rfl ?_
      refine a_lload_n i_Va_numberAt_30 rfl ?_
      refine a_lload i_Va_numberAt_31 rfl ?_
      refine a_iload i_Va_numberAt_33 rfl ?_
      refine a_i2l i_Va_numberAt_35 ?_
      refine a_lmul i_Va_numberAt_36 ?_
      refine a_ladd i_Va_numberAt_37 ?_
      obtain ⟨v20, σ20, e20, h⟩ := am_bd_some h
      refine am_cvd (rest := []) [.ref 39, .int x1, .long (x2 + (x4 * x6.toInt64))] c_Va_numberAt_38 ⟨by decide, _, rfl⟩ rfl (Nat.le_of_ble_eq_true rfl) (t_Se_point cu_39 e20) ?_
      refine a_aload_n i_Va_numberAt_41 rfl ?_
      refine a_get (v := .ref 39) i_Va_numberAt_42 rfl rfl ?_
      refine a_iload i_Va_numberAt_45 rfl ?_
      obtain ⟨v24, σ24, e24, h⟩ := am_bd_some h
      refine am_cvd (rest := []) [.int x6] c_Va_numberAt_47 ⟨by decide, _, rfl⟩ rfl (Nat.le_of_ble_eq_true rfl) (t_Cu_number cu_39 e24) ?_
      refine a_lstore i_Va_numberAt_50 rfl ?_
      refine a_aload_n i_Va_numberAt_52 rfl ?_
      refine a_aload_n i_Va_numberAt_53 rfl ?_
      refine a_get (v := .int (σ24.1.1 37 6)) i_Va_numberAt_54 rfl rfl ?_
      by_cases c29 : (σ24.1.1 37 6) = 0
      · rw [if_pos c29] at h
        refine a_iff i_Va_numberAt_57 c29 ?_
        refine a_aload_n i_Va_numberAt_60 rfl ?_
        refine a_get (v := .ref 39) i_Va_numberAt_61 rfl rfl ?_
        refine a_get (v := .int (σ24.1.1 39 3)) i_Va_numberAt_64 rfl rfl ?_
        by_cases c33 : (σ24.1.1 39 3) = 0
        · rw [if_pos c33] at h
          refine a_ift i_Va_numberAt_67 c33 ?_
          refine a_iconst i_Va_numberAt_74 ?_
          exact am_wk (t_Va_numberAt_75 h) ⟨Or.inl rfl, Or.inl rfl, Or.inl rfl, Or.inl rfl, Or.inl rfl, Or.inl rfl, Or.inl rfl, Or.inr rfl, Or.inl rfl, trivial⟩
        · rw [if_neg c33] at h
          refine a_iff i_Va_numberAt_67 c33 ?_
          exact am_wk (t_Va_numberAt_70 h) ⟨Or.inl rfl, Or.inl rfl, Or.inl rfl, Or.inl rfl, Or.inl rfl, Or.inl rfl, Or.inl rfl, Or.inr rfl, Or.inl rfl, trivial⟩
      · rw [if_neg c29] at h
        refine a_ift i_Va_numberAt_57 c29 ?_
        exact am_wk (t_Va_numberAt_70 h) ⟨Or.inl rfl, Or.inl rfl, Or.inl rfl, Or.inl rfl, Or.inl rfl, Or.inl rfl, Or.inl rfl, Or.inr rfl, Or.inl rfl, trivial⟩
theorem t_Va_numberAt {x1 : Int32} {x2 : Int64} {x4 : Int64} {x6 : Int32} {σ σ' : am_S} {r : Int64} (h : g_Va_numberAt x1 x2 x4 x6 σ = some (r, σ')) : am_Mt S_c M_Va_numberAt [.ref 37, .int x1, .long x2, .long x4, .int x6] σ (fun q τ => q = some (.long r) ∧ τ = σ') :=
  am_M_of ok_Va_numberAt (Nat.le_of_ble_eq_true rfl) (t_Va_numberAt_0 h)
def g_Va_text (x1 : Int32) (x2 : Int32) (x3 : Int64) (σ : am_S) : Option (Int64 × am_S) :=
  if x2 = 8 then
    some (x3, σ)
  else
  if x2 = 14 then
    am_bd (g_Va_textAt (2) x3 σ) fun v6 σ6 =>
    some (v6, σ6)
  else
  if x2 = 31 then
    am_bd (g_Va_textAt (3) x3 σ) fun v6 σ6 =>
    some (v6, σ6)
  else
  if x2 = 37 then
    am_bd (g_Va_baseOf x1 (1) σ) fun v10 σ10 =>
    am_bd (g_Va_numberAt (4) v10 x3 (4) σ10) fun v13 σ13 =>
    am_bd (g_Va_textAt (2) v13 σ13) fun v14 σ14 =>
    some (v14, σ14)
  else
  am_bd (g_Va_wrong σ) fun v4 σ4 =>
  some (v4, σ4)
set_option maxHeartbeats 4000000 in
theorem t_Va_text_0 {x1 : Int32} {x2 : Int32} {x3 : Int64} {σ σ' : am_S} {r : Int64} (h : g_Va_text x1 x2 x3 σ = some (r, σ')) : am_A S_c M_Va_text (0, [some (.ref 37), some (.int x1), some (.int x2), some (.long x3), none], [], σ) (am_r S_c (fun q τ => q = some (.long r) ∧ τ = σ')) := by
  unfold g_Va_text at h
  refine a_iload_n i_Va_text_0 rfl ?_
  by_cases d2_0 : x2 = 8
  · rw [if_pos d2_0] at h
    refine a_lks 0 i_Va_text_1 rfl (by rw [d2_0]; decide) rfl ?_
    refine a_lload_n i_Va_text_44 rfl ?_
    exact am_ret_l ok_Va_text rfl rfl (am_lf_l h)
  rw [if_neg d2_0] at h
  by_cases d2_1 : x2 = 14
  · rw [if_pos d2_1] at h
    refine a_lks 1 i_Va_text_1 rfl (by rw [d2_1]; decide) rfl ?_
    refine a_aload_n i_Va_text_46 rfl ?_
    refine a_iconst i_Va_text_47 ?_
    refine a_lload_n i_Va_text_48 rfl ?_
    obtain ⟨v6, σ6, e6, h⟩ := am_bd_some h
    refine am_cvd (rest := []) [.int 2, .long x3] c_Va_text_49 ⟨by decide, _, rfl⟩ rfl (Nat.le_of_ble_eq_true rfl) (t_Va_textAt e6) ?_
    exact am_ret_l ok_Va_text rfl rfl (am_lf_l h)
  rw [if_neg d2_1] at h
  by_cases d2_2 : x2 = 31
  · rw [if_pos d2_2] at h
    refine a_lks 2 i_Va_text_1 rfl (by rw [d2_2]; decide) rfl ?_
    refine a_aload_n i_Va_text_53 rfl ?_
    refine a_iconst i_Va_text_54 ?_
    refine a_lload_n i_Va_text_55 rfl ?_
    obtain ⟨v6, σ6, e6, h⟩ := am_bd_some h
    refine am_cvd (rest := []) [.int 3, .long x3] c_Va_text_56 ⟨by decide, _, rfl⟩ rfl (Nat.le_of_ble_eq_true rfl) (t_Va_textAt e6) ?_
    exact am_ret_l ok_Va_text rfl rfl (am_lf_l h)
  rw [if_neg d2_2] at h
  by_cases d2_3 : x2 = 37
  · rw [if_pos d2_3] at h
    refine a_lks 3 i_Va_text_1 rfl (by rw [d2_3]; decide) rfl ?_
    refine a_aload_n i_Va_text_60 rfl ?_
    refine a_iconst i_Va_text_61 ?_
    refine a_aload_n i_Va_text_62 rfl ?_
    refine a_iconst i_Va_text_63 ?_
    refine a_aload_n i_Va_text_64 rfl ?_
    refine a_iload_n i_Va_text_65 rfl ?_
    refine a_iconst i_Va_text_66 ?_
    obtain ⟨v10, σ10, e10, h⟩ := am_bd_some h
    refine am_cvd (rest := [.int 4, .ref 37, .int 2, .ref 37]) [.int x1, .int 1] c_Va_text_67 ⟨by decide, _, rfl⟩ rfl (Nat.le_of_ble_eq_true rfl) (t_Va_baseOf e10) ?_
    refine a_lload_n i_Va_text_70 rfl ?_
    refine a_iconst i_Va_text_71 ?_
    obtain ⟨v13, σ13, e13, h⟩ := am_bd_some h
    refine am_cvd (rest := [.int 2, .ref 37]) [.int 4, .long v10, .long x3, .int 4] c_Va_text_72 ⟨by decide, _, rfl⟩ rfl (Nat.le_of_ble_eq_true rfl) (t_Va_numberAt e13) ?_
    obtain ⟨v14, σ14, e14, h⟩ := am_bd_some h
    refine am_cvd (rest := []) [.int 2, .long v13] c_Va_text_75 ⟨by decide, _, rfl⟩ rfl (Nat.le_of_ble_eq_true rfl) (t_Va_textAt e14) ?_
    exact am_ret_l ok_Va_text rfl rfl (am_lf_l h)
  rw [if_neg d2_3] at h
  refine a_lksd i_Va_text_1 (lks_n _ _ _ (List.forall_mem_cons.mpr ⟨lv_neT d2_0 (a := 8) (by decide), List.forall_mem_cons.mpr ⟨lv_neT d2_1 (a := 14) (by decide), List.forall_mem_cons.mpr ⟨lv_neT d2_2 (a := 31) (by decide), List.forall_mem_cons.mpr ⟨lv_neT d2_3 (a := 37) (by decide), fun _ h9 => absurd h9 List.not_mem_nil⟩⟩⟩⟩)) rfl ?_
  refine a_aload_n i_Va_text_79 rfl ?_
  obtain ⟨v4, σ4, e4, h⟩ := am_bd_some h
  refine am_cvd (rest := []) [] c_Va_text_80 ⟨by decide, _, rfl⟩ rfl (Nat.le_of_ble_eq_true rfl) (t_Va_wrong e4) ?_
  exact am_ret_l ok_Va_text rfl rfl (am_lf_l h)
theorem t_Va_text {x1 : Int32} {x2 : Int32} {x3 : Int64} {σ σ' : am_S} {r : Int64} (h : g_Va_text x1 x2 x3 σ = some (r, σ')) : am_Mt S_c M_Va_text [.ref 37, .int x1, .int x2, .long x3] σ (fun q τ => q = some (.long r) ∧ τ = σ') :=
  am_M_of ok_Va_text (Nat.le_of_ble_eq_true rfl) (t_Va_text_0 h)
def g_Va_addressAt (x1 : Int32) (x2 : Int64) (σ : am_S) : Option (Int64 × am_S) :=
  am_bd (g_Va_baseOf x1 (2) σ) fun v6 σ6 =>
  am_bd (g_Va_numberAt (5) v6 x2 (8) σ6) fun v9 σ9 =>
  some (v9, σ9)
set_option maxHeartbeats 4000000 in
theorem t_Va_addressAt_0 {x1 : Int32} {x2 : Int64} {σ σ' : am_S} {r : Int64} (h : g_Va_addressAt x1 x2 σ = some (r, σ')) : am_A S_c M_Va_addressAt (0, [some (.ref 37), some (.int x1), some (.long x2), none], [], σ) (am_r S_c (fun q τ => q = some (.long r) ∧ τ = σ')) := by
  unfold g_Va_addressAt at h
  refine a_aload_n i_Va_addressAt_0 rfl ?_
  refine a_iconst i_Va_addressAt_1 ?_
  refine a_aload_n i_Va_addressAt_2 rfl ?_
  refine a_iload_n i_Va_addressAt_3 rfl ?_
  refine a_iconst i_Va_addressAt_4 ?_
  obtain ⟨v6, σ6, e6, h⟩ := am_bd_some h
  refine am_cvd (rest := [.int 5, .ref 37]) [.int x1, .int 2] c_Va_addressAt_5 ⟨by decide, _, rfl⟩ rfl (Nat.le_of_ble_eq_true rfl) (t_Va_baseOf e6) ?_
  refine a_lload_n i_Va_addressAt_8 rfl ?_
  refine a_bipush i_Va_addressAt_9 ?_
  obtain ⟨v9, σ9, e9, h⟩ := am_bd_some h
  refine am_cvd (rest := []) [.int 5, .long v6, .long x2, .int 8] c_Va_addressAt_11 ⟨by decide, _, rfl⟩ rfl (Nat.le_of_ble_eq_true rfl) (t_Va_numberAt e9) ?_
  exact am_ret_l ok_Va_addressAt rfl rfl (am_lf_l h)
theorem t_Va_addressAt {x1 : Int32} {x2 : Int64} {σ σ' : am_S} {r : Int64} (h : g_Va_addressAt x1 x2 σ = some (r, σ')) : am_Mt S_c M_Va_addressAt [.ref 37, .int x1, .long x2] σ (fun q τ => q = some (.long r) ∧ τ = σ') :=
  am_M_of ok_Va_addressAt (Nat.le_of_ble_eq_true rfl) (t_Va_addressAt_0 h)
def g_Va_address_26 (y0 : Int64) (σ : am_S) : Option (Int64 × am_S) :=
  some (y0, σ)
set_option maxHeartbeats 4000000 in
theorem t_Va_address_26 {y0 : Int64} {σ σ' : am_S} {r : Int64} (h : g_Va_address_26 y0 σ = some (r, σ')) : am_A S_c M_Va_address (26, [none, none, none, none, none], [.long y0], σ) (am_r S_c (fun q τ => q = some (.long r) ∧ τ = σ')) := by
  unfold g_Va_address_26 at h
  exact am_ret_l ok_Va_address rfl rfl (am_lf_l h)
def g_Va_address (x1 : Int32) (x2 : Int32) (x3 : Int64) (σ : am_S) : Option (Int64 × am_S) :=
  if x2 = 1 then
    some (x3, σ)
  else
    if x2 = 27 then
      am_bd (g_Va_addressAt x1 x3 σ) fun v10 σ10 =>
      g_Va_address_26 v10 σ10
    else
      am_bd (g_Va_wrong σ) fun v8 σ8 =>
      g_Va_address_26 v8 σ8
set_option maxHeartbeats 4000000 in
theorem t_Va_address_0 {x1 : Int32} {x2 : Int32} {x3 : Int64} {σ σ' : am_S} {r : Int64} (h : g_Va_address x1 x2 x3 σ = some (r, σ')) : am_A S_c M_Va_address (0, [some (.ref 37), some (.int x1), some (.int x2), some (.long x3), none], [], σ) (am_r S_c (fun q τ => q = some (.long r) ∧ τ = σ')) := by
  unfold g_Va_address at h
  refine a_iload_n i_Va_address_0 rfl ?_
  refine a_iconst i_Va_address_1 ?_
  by_cases c3 : x2 = 1
  · rw [if_pos c3] at h
    refine a_icf i_Va_address_2 c3 ?_
    refine a_lload_n i_Va_address_5 rfl ?_
    exact am_ret_l ok_Va_address rfl rfl (am_lf_l h)
  · rw [if_neg c3] at h
    refine a_ict i_Va_address_2 c3 ?_
    refine a_iload_n i_Va_address_7 rfl ?_
    refine a_bipush i_Va_address_8 ?_
    by_cases c6 : x2 = 27
    · rw [if_pos c6] at h
      refine a_icf i_Va_address_10 c6 ?_
      refine a_aload_n i_Va_address_13 rfl ?_
      refine a_iload_n i_Va_address_14 rfl ?_
      refine a_lload_n i_Va_address_15 rfl ?_
      obtain ⟨v10, σ10, e10, h⟩ := am_bd_some h
      refine am_cvd (rest := []) [.int x1, .long x3] c_Va_address_16 ⟨by decide, _, rfl⟩ rfl (Nat.le_of_ble_eq_true rfl) (t_Va_addressAt e10) ?_
      refine a_goto i_Va_address_19 ?_
      exact am_wk (t_Va_address_26 h) ⟨Or.inl rfl, Or.inl rfl, Or.inl rfl, Or.inl rfl, Or.inl rfl, trivial⟩
    · rw [if_neg c6] at h
      refine a_ict i_Va_address_10 c6 ?_
      refine a_aload_n i_Va_address_22 rfl ?_
      obtain ⟨v8, σ8, e8, h⟩ := am_bd_some h
      refine am_cvd (rest := []) [] c_Va_address_23 ⟨by decide, _, rfl⟩ rfl (Nat.le_of_ble_eq_true rfl) (t_Va_wrong e8) ?_
      exact am_wk (t_Va_address_26 h) ⟨Or.inl rfl, Or.inl rfl, Or.inl rfl, Or.inl rfl, Or.inl rfl, trivial⟩
theorem t_Va_address {x1 : Int32} {x2 : Int32} {x3 : Int64} {σ σ' : am_S} {r : Int64} (h : g_Va_address x1 x2 x3 σ = some (r, σ')) : am_Mt S_c M_Va_address [.ref 37, .int x1, .int x2, .long x3] σ (fun q τ => q = some (.long r) ∧ τ = σ') :=
  am_M_of ok_Va_address (Nat.le_of_ble_eq_true rfl) (t_Va_address_0 h)
def g_Va_lowOf_25 (y0 : Int64) (σ : am_S) : Option (Int64 × am_S) :=
  some (y0, σ)
set_option maxHeartbeats 4000000 in
theorem t_Va_lowOf_25 {y0 : Int64} {σ σ' : am_S} {r : Int64} (h : g_Va_lowOf_25 y0 σ = some (r, σ')) : am_A S_c M_Va_lowOf (25, [none, none], [.long y0], σ) (am_r S_c (fun q τ => q = some (.long r) ∧ τ = σ')) := by
  unfold g_Va_lowOf_25 at h
  exact am_ret_l ok_Va_lowOf rfl rfl (am_lf_l h)
def g_Va_lowOf (x1 : Int32) (σ : am_S) : Option (Int64 × am_S) :=
  am_bd (g_En_has x1 (1) σ) fun v5 σ5 =>
  if v5 = 0 then
    g_Va_lowOf_25 (0) σ5
  else
    am_bd (g_En_valueOf x1 (1) σ5) fun v11 σ11 =>
    g_Va_lowOf_25 v11 σ11
set_option maxHeartbeats 4000000 in
theorem t_Va_lowOf_0 {x1 : Int32} {σ σ' : am_S} {r : Int64} (h : g_Va_lowOf x1 σ = some (r, σ')) : am_A S_c M_Va_lowOf (0, [some (.ref 37), some (.int x1)], [], σ) (am_r S_c (fun q τ => q = some (.long r) ∧ τ = σ')) := by
  unfold g_Va_lowOf at h
  refine a_aload_n i_Va_lowOf_0 rfl ?_
  refine a_get (v := .ref 10) i_Va_lowOf_1 rfl rfl ?_
  refine a_iload_n i_Va_lowOf_4 rfl ?_
  refine a_iconst i_Va_lowOf_5 ?_
  obtain ⟨v5, σ5, e5, h⟩ := am_bd_some h
  refine am_cvd (rest := []) [.int x1, .int 1] c_Va_lowOf_6 ⟨by decide, _, rfl⟩ rfl (Nat.le_of_ble_eq_true rfl) (t_En_has e5) ?_
  by_cases c6 : v5 = 0
  · rw [if_pos c6] at h
    refine a_ift i_Va_lowOf_9 c6 ?_
    refine a_lconst i_Va_lowOf_24 ?_
    exact am_wk (t_Va_lowOf_25 h) ⟨Or.inl rfl, Or.inl rfl, trivial⟩
  · rw [if_neg c6] at h
    refine a_iff i_Va_lowOf_9 c6 ?_
    refine a_aload_n i_Va_lowOf_12 rfl ?_
    refine a_get (v := .ref 10) i_Va_lowOf_13 rfl rfl ?_
    refine a_iload_n i_Va_lowOf_16 rfl ?_
    refine a_iconst i_Va_lowOf_17 ?_
    obtain ⟨v11, σ11, e11, h⟩ := am_bd_some h
    refine am_cvd (rest := []) [.int x1, .int 1] c_Va_lowOf_18 ⟨by decide, _, rfl⟩ rfl (Nat.le_of_ble_eq_true rfl) (t_En_valueOf e11) ?_
    refine a_goto i_Va_lowOf_21 ?_
    exact am_wk (t_Va_lowOf_25 h) ⟨Or.inl rfl, Or.inl rfl, trivial⟩
theorem t_Va_lowOf {x1 : Int32} {σ σ' : am_S} {r : Int64} (h : g_Va_lowOf x1 σ = some (r, σ')) : am_Mt S_c M_Va_lowOf [.ref 37, .int x1] σ (fun q τ => q = some (.long r) ∧ τ = σ') :=
  am_M_of ok_Va_lowOf (Nat.le_of_ble_eq_true rfl) (t_Va_lowOf_0 h)
def g_Va_listPlace_42 (y0 : Int64) (σ : am_S) : Option (Int64 × am_S) :=
  some (y0, σ)
set_option maxHeartbeats 4000000 in
theorem t_Va_listPlace_42 {y0 : Int64} {σ σ' : am_S} {r : Int64} (h : g_Va_listPlace_42 y0 σ = some (r, σ')) : am_A S_c M_Va_listPlace (42, [none, none, none, none, none, none, none], [.long y0], σ) (am_r S_c (fun q τ => q = some (.long r) ∧ τ = σ')) := by
  unfold g_Va_listPlace_42 at h
  exact am_ret_l ok_Va_listPlace rfl rfl (am_lf_l h)
def g_Va_listPlace (x1 : Int32) (x2 : Int32) (x3 : Int64) (σ : am_S) : Option (Int64 × am_S) :=
  if x2 = 23 then
    some (x3, σ)
  else
    am_bd (g_Va_baseOf x1 (3) σ) fun v7 σ7 =>
    if x2 = 35 then
      am_bd (g_Va_numberAt (6) v7 x3 (4) σ7) fun v18 σ18 =>
      g_Va_listPlace_42 (v7 + v18) σ18
    else
      am_bd (g_Va_wrong σ7) fun v13 σ13 =>
      g_Va_listPlace_42 v13 σ13
set_option maxHeartbeats 4000000 in
theorem t_Va_listPlace_0 {x1 : Int32} {x2 : Int32} {x3 : Int64} {σ σ' : am_S} {r : Int64} (h : g_Va_listPlace x1 x2 x3 σ = some (r, σ')) : am_A S_c M_Va_listPlace (0, [some (.ref 37), some (.int x1), some (.int x2), some (.long x3), none, none, none], [], σ) (am_r S_c (fun q τ => q = some (.long r) ∧ τ = σ')) := by
  unfold g_Va_listPlace at h
  refine a_iload_n i_Va_listPlace_0 rfl ?_
  refine a_bipush i_Va_listPlace_1 ?_
  by_cases c3 : x2 = 23
  · rw [if_pos c3] at h
    refine a_icf i_Va_listPlace_3 c3 ?_
    refine a_lload_n i_Va_listPlace_6 rfl ?_
    exact am_ret_l ok_Va_listPlace rfl rfl (am_lf_l h)
  · rw [if_neg c3] at h
    refine a_ict i_Va_listPlace_3 c3 ?_
    refine a_aload_n i_Va_listPlace_8 rfl ?_
    refine a_iload_n i_Va_listPlace_9 rfl ?_
    refine a_iconst i_Va_listPlace_10 ?_
    obtain ⟨v7, σ7, e7, h⟩ := am_bd_some h
    refine am_cvd (rest := []) [.int x1, .int 3] c_Va_listPlace_11 ⟨by decide, _, rfl⟩ rfl (Nat.le_of_ble_eq_true rfl) (t_Va_baseOf e7) ?_
    refine a_lstore i_Va_listPlace_14 rfl ?_
    refine a_iload_n i_Va_listPlace_16 rfl ?_
    refine a_bipush i_Va_listPlace_17 ?_
    by_cases c11 : x2 = 35
    · rw [if_pos c11] at h
      refine a_icf i_Va_listPlace_19 c11 ?_
      refine a_lload i_Va_listPlace_22 rfl ?_
      refine a_aload_n i_Va_listPlace_24 rfl ?_
      refine a_bipush i_Va_listPlace_25 ?_
      refine a_lload i_Va_listPlace_27 rfl ?_
      refine a_lload_n i_Va_listPlace_29 rfl ?_
      refine a_iconst i_Va_listPlace_30 ?_
      obtain ⟨v18, σ18, e18, h⟩ := am_bd_some h
      refine am_cvd (rest := [.long v7]) [.int 6, .long v7, .long x3, .int 4] c_Va_listPlace_31 ⟨by decide, _, rfl⟩ rfl (Nat.le_of_ble_eq_true rfl) (t_Va_numberAt e18) ?_
      refine a_ladd i_Va_listPlace_34 ?_
      refine a_goto i_Va_listPlace_35 ?_
      exact am_wk (t_Va_listPlace_42 h) ⟨Or.inl rfl, Or.inl rfl, Or.inl rfl, Or.inl rfl, Or.inl rfl, Or.inl rfl, Or.inl rfl, trivial⟩
    · rw [if_neg c11] at h
      refine a_ict i_Va_listPlace_19 c11 ?_
      refine a_aload_n i_Va_listPlace_38 rfl ?_
      obtain ⟨v13, σ13, e13, h⟩ := am_bd_some h
      refine am_cvd (rest := []) [] c_Va_listPlace_39 ⟨by decide, _, rfl⟩ rfl (Nat.le_of_ble_eq_true rfl) (t_Va_wrong e13) ?_
      exact am_wk (t_Va_listPlace_42 h) ⟨Or.inl rfl, Or.inl rfl, Or.inl rfl, Or.inl rfl, Or.inl rfl, Or.inl rfl, Or.inl rfl, trivial⟩
theorem t_Va_listPlace {x1 : Int32} {x2 : Int32} {x3 : Int64} {σ σ' : am_S} {r : Int64} (h : g_Va_listPlace x1 x2 x3 σ = some (r, σ')) : am_Mt S_c M_Va_listPlace [.ref 37, .int x1, .int x2, .long x3] σ (fun q τ => q = some (.long r) ∧ τ = σ') :=
  am_M_of ok_Va_listPlace (Nat.le_of_ble_eq_true rfl) (t_Va_listPlace_0 h)
def g_Va_origin_124 (go : Int32 → Int64 → Int32 → am_S → Option (Int64 × am_S)) (x1 : Int32) (x3 : Int64) (x5 : Int32) (σ : am_S) : Option (Int64 × am_S) :=
  go x1 x3 (x5 + 1) σ
set_option maxHeartbeats 4000000 in
theorem t_Va_origin_124 {x1 : Int32} {x3 : Int64} {x5 : Int32} {σ σ' : am_S} {r : Int64} {go : Int32 → Int64 → Int32 → am_S → Option (Int64 × am_S)} (hgo : ∀ {x1 : Int32} {x3 : Int64} {x5 : Int32} {σ σ' : am_S} {r : Int64}, go x1 x3 x5 σ = some (r, σ') → am_A S_c M_Va_origin (22, [some (.ref 37), some (.int x1), none, some (.long x3), none, some (.int x5), none], [], σ) (am_r S_c (fun q τ => q = some (.long r) ∧ τ = σ'))) (h : g_Va_origin_124 go x1 x3 x5 σ = some (r, σ')) : am_A S_c M_Va_origin (124, [some (.ref 37), some (.int x1), none, some (.long x3), none, some (.int x5), none], [], σ) (am_r S_c (fun q τ => q = some (.long r) ∧ τ = σ')) := by
  unfold g_Va_origin_124 at h
  refine a_iinc i_Va_origin_124 rfl rfl ?_
  refine a_goto i_Va_origin_127 ?_
  exact hgo h
def g_Va_origin_87 (go : Int32 → Int64 → Int32 → am_S → Option (Int64 × am_S)) (x1 : Int32) (x3 : Int64) (x5 : Int32) (y0 : Int32) (σ : am_S) : Option (Int64 × am_S) :=
  if y0 = 0 then
    g_Va_origin_124 go x1 x3 x5 σ
  else
    am_gd (inb x5 200) <|
    am_gd (inb x1 4) <|
    if (lg_cmp (((σ.2.1 14 x5.toNatClampNeg) - (σ.2.1 17 x1.toNatClampNeg)).toInt64) x3) = 0 then
      some (x5.toInt64, σ)
    else
      g_Va_origin_124 go x1 x3 x5 σ
set_option maxHeartbeats 4000000 in
theorem t_Va_origin_87 {x1 : Int32} {x3 : Int64} {x5 : Int32} {y0 : Int32} {σ σ' : am_S} {r : Int64} {go : Int32 → Int64 → Int32 → am_S → Option (Int64 × am_S)} (hgo : ∀ {x1 : Int32} {x3 : Int64} {x5 : Int32} {σ σ' : am_S} {r : Int64}, go x1 x3 x5 σ = some (r, σ') → am_A S_c M_Va_origin (22, [some (.ref 37), some (.int x1), none, some (.long x3), none, some (.int x5), none], [], σ) (am_r S_c (fun q τ => q = some (.long r) ∧ τ = σ'))) (h : g_Va_origin_87 go x1 x3 x5 y0 σ = some (r, σ')) : am_A S_c M_Va_origin (87, [some (.ref 37), some (.int x1), none, some (.long x3), none, some (.int x5), none], [.int y0], σ) (am_r S_c (fun q τ => q = some (.long r) ∧ τ = σ')) := by
  unfold g_Va_origin_87 at h
  refine a_istore i_Va_origin_87 rfl ?_
  refine a_iload i_Va_origin_89 rfl ?_
  by_cases c3 : y0 = 0
  · rw [if_pos c3] at h
    refine a_ift i_Va_origin_91 c3 ?_
    exact am_wk (t_Va_origin_124 hgo h) ⟨Or.inr rfl, Or.inr rfl, Or.inl rfl, Or.inr rfl, Or.inl rfl, Or.inr rfl, Or.inl rfl, trivial⟩
  · rw [if_neg c3] at h
    refine a_iff i_Va_origin_91 c3 ?_
    refine a_aload_n i_Va_origin_94 rfl ?_
    refine a_get (v := .ref 10) i_Va_origin_95 rfl rfl ?_
    refine a_get (v := .ref 14) i_Va_origin_98 rfl rfl ?_
    refine a_iload i_Va_origin_101 rfl ?_
    obtain ⟨c8, h⟩ := gd_some h
    refine a_ial (n := 200) i_Va_origin_103 (by decide) rfl rfl (inb_in c8) ?_
    refine a_aload_n i_Va_origin_104 rfl ?_
    refine a_get (v := .ref 10) i_Va_origin_105 rfl rfl ?_
    refine a_get (v := .ref 17) i_Va_origin_108 rfl rfl ?_
    refine a_iload_n i_Va_origin_111 rfl ?_
    obtain ⟨c13, h⟩ := gd_some h
    refine a_ial (n := 4) i_Va_origin_112 (by decide) rfl rfl (inb_in c13) ?_
    refine a_isub i_Va_origin_113 ?_
    refine a_i2l i_Va_origin_114 ?_
    refine a_lload_n i_Va_origin_115 rfl ?_
    refine a_lcmp i_Va_origin_116 ?_
    by_cases c18 : (lg_cmp (((σ.2.1 14 x5.toNatClampNeg) - (σ.2.1 17 x1.toNatClampNeg)).toInt64) x3) = 0
    · rw [if_pos c18] at h
      refine a_iff i_Va_origin_117 c18 ?_
      refine a_iload i_Va_origin_120 rfl ?_
      refine a_i2l i_Va_origin_122 ?_
      exact am_ret_l ok_Va_origin rfl rfl (am_lf_l h)
    · rw [if_neg c18] at h
      refine a_ift i_Va_origin_117 c18 ?_
      exact am_wk (t_Va_origin_124 hgo h) ⟨Or.inr rfl, Or.inr rfl, Or.inl rfl, Or.inr rfl, Or.inl rfl, Or.inr rfl, Or.inl rfl, trivial⟩
def g_Va_origin_82 (go : Int32 → Int64 → Int32 → am_S → Option (Int64 × am_S)) (x1 : Int32) (x3 : Int64) (x5 : Int32) (σ : am_S) : Option (Int64 × am_S) :=
  g_Va_origin_87 go x1 x3 x5 (1) σ
set_option maxHeartbeats 4000000 in
theorem t_Va_origin_82 {x1 : Int32} {x3 : Int64} {x5 : Int32} {σ σ' : am_S} {r : Int64} {go : Int32 → Int64 → Int32 → am_S → Option (Int64 × am_S)} (hgo : ∀ {x1 : Int32} {x3 : Int64} {x5 : Int32} {σ σ' : am_S} {r : Int64}, go x1 x3 x5 σ = some (r, σ') → am_A S_c M_Va_origin (22, [some (.ref 37), some (.int x1), none, some (.long x3), none, some (.int x5), none], [], σ) (am_r S_c (fun q τ => q = some (.long r) ∧ τ = σ'))) (h : g_Va_origin_82 go x1 x3 x5 σ = some (r, σ')) : am_A S_c M_Va_origin (82, [some (.ref 37), some (.int x1), none, some (.long x3), none, some (.int x5), none], [], σ) (am_r S_c (fun q τ => q = some (.long r) ∧ τ = σ')) := by
  unfold g_Va_origin_82 at h
  refine a_iconst i_Va_origin_82 ?_
  refine a_goto i_Va_origin_83 ?_
  exact t_Va_origin_87 hgo h
def g_Va_origin_130 (σ : am_S) : Option (Int64 × am_S) :=
  am_bd (g_Va_wrong σ) fun v2 σ2 =>
  some (v2, σ2)
set_option maxHeartbeats 4000000 in
theorem t_Va_origin_130 {σ σ' : am_S} {r : Int64} (h : g_Va_origin_130 σ = some (r, σ')) : am_A S_c M_Va_origin (130, [some (.ref 37), none, none, none, none, none, none], [], σ) (am_r S_c (fun q τ => q = some (.long r) ∧ τ = σ')) := by
  unfold g_Va_origin_130 at h
  refine a_aload_n i_Va_origin_130 rfl ?_
  obtain ⟨v2, σ2, e2, h⟩ := am_bd_some h
  refine am_cvd (rest := []) [] c_Va_origin_131 ⟨by decide, _, rfl⟩ rfl (Nat.le_of_ble_eq_true rfl) (t_Va_wrong e2) ?_
  exact am_ret_l ok_Va_origin rfl rfl (am_lf_l h)
def g_Va_origin_22 : Nat → Int32 → Int64 → Int32 → am_S → Option (Int64 × am_S)
  | 0, _, _, _, _ => none
  | n + 1, x1, x3, x5, σ =>
  if x5 < (σ.1.1 10 10) then
    am_gd (inb x5 200) <|
    if (σ.2.1 13 x5.toNatClampNeg) = x1 then
      am_gd (inb x5 200) <|
      if (lg_cmp (σ.2.2 11 x5.toNatClampNeg) 46) = 0 then
        g_Va_origin_82 (g_Va_origin_22 n) x1 x3 x5 σ
      else
        am_gd (inb x5 200) <|
        if (lg_cmp (σ.2.2 11 x5.toNatClampNeg) 29) = 0 then
          g_Va_origin_82 (g_Va_origin_22 n) x1 x3 x5 σ
        else
          g_Va_origin_87 (g_Va_origin_22 n) x1 x3 x5 (0) σ
    else
      g_Va_origin_130 σ
  else
    g_Va_origin_130 σ
set_option maxHeartbeats 4000000 in
theorem t_Va_origin_22 : ∀ (n : Nat) {x1 : Int32} {x3 : Int64} {x5 : Int32} {σ σ' : am_S} {r : Int64} (h : g_Va_origin_22 n x1 x3 x5 σ = some (r, σ')), am_A S_c M_Va_origin (22, [some (.ref 37), some (.int x1), none, some (.long x3), none, some (.int x5), none], [], σ) (am_r S_c (fun q τ => q = some (.long r) ∧ τ = σ')) := by
  intro n
  induction n with
  | zero =>
    intro x1 x3 x5 σ σ' r h
    cases h
  | succ n ih =>
  intro x1 x3 x5 σ σ' r h
  unfold g_Va_origin_22 at h
  refine a_iload i_Va_origin_22 rfl ?_
  refine a_aload_n i_Va_origin_24 rfl ?_
  refine a_get (v := .ref 10) i_Va_origin_25 rfl rfl ?_
  refine a_get (v := .int (σ.1.1 10 10)) i_Va_origin_28 rfl rfl ?_
  by_cases c5 : x5 < (σ.1.1 10 10)
  · rw [if_pos c5] at h
    refine a_icf i_Va_origin_31 (Int32.not_le.mpr c5) ?_
    refine a_aload_n i_Va_origin_34 rfl ?_
    refine a_get (v := .ref 10) i_Va_origin_35 rfl rfl ?_
    refine a_get (v := .ref 13) i_Va_origin_38 rfl rfl ?_
    refine a_iload i_Va_origin_41 rfl ?_
    obtain ⟨c10, h⟩ := gd_some h
    refine a_ial (n := 200) i_Va_origin_43 (by decide) rfl rfl (inb_in c10) ?_
    refine a_iload_n i_Va_origin_44 rfl ?_
    by_cases c12 : (σ.2.1 13 x5.toNatClampNeg) = x1
    · rw [if_pos c12] at h
      refine a_icf i_Va_origin_45 c12 ?_
      refine a_aload_n i_Va_origin_48 rfl ?_
      refine a_get (v := .ref 10) i_Va_origin_49 rfl rfl ?_
      refine a_get (v := .ref 11) i_Va_origin_52 rfl rfl ?_
      refine a_iload i_Va_origin_55 rfl ?_
      obtain ⟨c17, h⟩ := gd_some h
      refine a_lal (n := 200) i_Va_origin_57 rfl rfl (inb_in c17) ?_
      refine a_ldc2 i_Va_origin_58 ?_
      refine a_lcmp i_Va_origin_61 ?_
      by_cases c20 : (lg_cmp (σ.2.2 11 x5.toNatClampNeg) 46) = 0
      · rw [if_pos c20] at h
        refine a_ift i_Va_origin_62 c20 ?_
        exact t_Va_origin_82 (fun h => ih h) h
      · rw [if_neg c20] at h
        refine a_iff i_Va_origin_62 c20 ?_
        refine a_aload_n i_Va_origin_65 rfl ?_
        refine a_get (v := .ref 10) i_Va_origin_66 rfl rfl ?_
        refine a_get (v := .ref 11) i_Va_origin_69 rfl rfl ?_
        refine a_iload i_Va_origin_72 rfl ?_
        obtain ⟨c25, h⟩ := gd_some h
        refine a_lal (n := 200) i_Va_origin_74 rfl rfl (inb_in c25) ?_
        refine a_ldc2 i_Va_origin_75 ?_
        refine a_lcmp i_Va_origin_78 ?_
        by_cases c28 : (lg_cmp (σ.2.2 11 x5.toNatClampNeg) 29) = 0
        · rw [if_pos c28] at h
          refine a_iff i_Va_origin_79 c28 ?_
          exact t_Va_origin_82 (fun h => ih h) h
        · rw [if_neg c28] at h
          refine a_ift i_Va_origin_79 c28 ?_
          refine a_iconst i_Va_origin_86 ?_
          exact t_Va_origin_87 (fun h => ih h) h
    · rw [if_neg c12] at h
      refine a_ict i_Va_origin_45 c12 ?_
      exact am_wk (t_Va_origin_130 h) ⟨Or.inr rfl, Or.inl rfl, Or.inl rfl, Or.inl rfl, Or.inl rfl, Or.inl rfl, Or.inl rfl, trivial⟩
  · rw [if_neg c5] at h
    refine a_ict i_Va_origin_31 (Int32.not_lt.mp c5) ?_
    exact am_wk (t_Va_origin_130 h) ⟨Or.inr rfl, Or.inl rfl, Or.inl rfl, Or.inl rfl, Or.inl rfl, Or.inl rfl, Or.inl rfl, trivial⟩
def g_Va_origin (x1 : Int32) (x2 : Int32) (x3 : Int64) (σ : am_S) : Option (Int64 × am_S) :=
  if x2 = 19 then
    am_gd (inb x1 4) <|
    g_Va_origin_22 4000 x1 x3 (σ.2.1 18 x1.toNatClampNeg) σ
  else
    am_bd (g_Va_wrong σ) fun v5 σ5 =>
    some (v5, σ5)
set_option maxHeartbeats 4000000 in
theorem t_Va_origin_0 {x1 : Int32} {x2 : Int32} {x3 : Int64} {σ σ' : am_S} {r : Int64} (h : g_Va_origin x1 x2 x3 σ = some (r, σ')) : am_A S_c M_Va_origin (0, [some (.ref 37), some (.int x1), some (.int x2), some (.long x3), none, none, none], [], σ) (am_r S_c (fun q τ => q = some (.long r) ∧ τ = σ')) := by
  unfold g_Va_origin at h
  refine a_iload_n i_Va_origin_0 rfl ?_
  refine a_bipush i_Va_origin_1 ?_
  by_cases c3 : x2 = 19
  · rw [if_pos c3] at h
    refine a_ict i_Va_origin_3 c3 ?_
    refine a_aload_n i_Va_origin_11 rfl ?_
    refine a_get (v := .ref 10) i_Va_origin_12 rfl rfl ?_
    refine a_get (v := .ref 18) i_Va_origin_15 rfl rfl ?_
    refine a_iload_n i_Va_origin_18 rfl ?_
    obtain ⟨c8, h⟩ := gd_some h
    refine a_ial (n := 4) i_Va_origin_19 (by decide) rfl rfl (inb_in c8) ?_
    refine a_istore i_Va_origin_20 rfl ?_
    exact am_wk (t_Va_origin_22 4000 h) ⟨Or.inr rfl, Or.inr rfl, Or.inl rfl, Or.inr rfl, Or.inl rfl, Or.inr rfl, Or.inl rfl, trivial⟩
  · rw [if_neg c3] at h
    refine a_icf i_Va_origin_3 c3 ?_
    refine a_aload_n i_Va_origin_6 rfl ?_
    obtain ⟨v5, σ5, e5, h⟩ := am_bd_some h
    refine am_cvd (rest := []) [] c_Va_origin_7 ⟨by decide, _, rfl⟩ rfl (Nat.le_of_ble_eq_true rfl) (t_Va_wrong e5) ?_
    exact am_ret_l ok_Va_origin rfl rfl (am_lf_l h)
theorem t_Va_origin {x1 : Int32} {x2 : Int32} {x3 : Int64} {σ σ' : am_S} {r : Int64} (h : g_Va_origin x1 x2 x3 σ = some (r, σ')) : am_Mt S_c M_Va_origin [.ref 37, .int x1, .int x2, .long x3] σ (fun q τ => q = some (.long r) ∧ τ = σ') :=
  am_M_of ok_Va_origin (Nat.le_of_ble_eq_true rfl) (t_Va_origin_0 h)
def g_Va_resolved_96 (y0 : Int64) (σ : am_S) : Option (Int64 × am_S) :=
  some (y0, σ)
set_option maxHeartbeats 4000000 in
theorem t_Va_resolved_96 {y0 : Int64} {σ σ' : am_S} {r : Int64} (h : g_Va_resolved_96 y0 σ = some (r, σ')) : am_A S_c M_Va_resolved (96, [none, none, none, none, none, none, none], [.long y0], σ) (am_r S_c (fun q τ => q = some (.long r) ∧ τ = σ')) := by
  unfold g_Va_resolved_96 at h
  exact am_ret_l ok_Va_resolved rfl rfl (am_lf_l h)
def g_Va_resolved_134 (y0 : Int64) (σ : am_S) : Option (Int64 × am_S) :=
  some (y0, σ)
set_option maxHeartbeats 4000000 in
theorem t_Va_resolved_134 {y0 : Int64} {σ σ' : am_S} {r : Int64} (h : g_Va_resolved_134 y0 σ = some (r, σ')) : am_A S_c M_Va_resolved (134, [none, none, none, none, none, none, none], [.long y0], σ) (am_r S_c (fun q τ => q = some (.long r) ∧ τ = σ')) := by
  unfold g_Va_resolved_134 at h
  exact am_ret_l ok_Va_resolved rfl rfl (am_lf_l h)
def g_Va_resolved (x1 : Int32) (x2 : Int32) (x3 : Int32) (x4 : Int64) (σ : am_S) : Option (Int64 × am_S) :=
  am_gd (inb x1 200) <|
  if x2 = 0 then
    am_bd (g_Va_text (σ.2.1 13 x1.toNatClampNeg) x3 x4 σ) fun v13 σ13 =>
    some (v13, σ13)
  else
  if x2 = 1 then
    am_bd (g_Va_address (σ.2.1 13 x1.toNatClampNeg) x3 x4 σ) fun v13 σ13 =>
    some (v13, σ13)
  else
  if x2 = 2 then
    am_bd (g_Ab_isConstantForm x3.toInt64 σ) fun v11 σ11 =>
    if v11 = 0 then
      am_bd (g_Va_address (σ.2.1 13 x1.toNatClampNeg) x3 x4 σ11) fun v17 σ17 =>
      g_Va_resolved_96 v17 σ17
    else
      am_bd (g_Va_lowOf x1 σ11) fun v15 σ15 =>
      g_Va_resolved_96 (v15 + x4) σ15
  else
  if x2 = 3 then
    am_bd (g_Va_listPlace (σ.2.1 13 x1.toNatClampNeg) x3 x4 σ) fun v13 σ13 =>
    some (v13, σ13)
  else
  if x2 = 4 then
    am_bd (g_Va_origin (σ.2.1 13 x1.toNatClampNeg) x3 x4 σ) fun v13 σ13 =>
    some (v13, σ13)
  else
  am_bd (g_Ab_isConstantForm x3.toInt64 σ) fun v11 σ11 =>
  if v11 = 0 then
    am_bd (g_Va_wrong σ11) fun v14 σ14 =>
    g_Va_resolved_134 v14 σ14
  else
    g_Va_resolved_134 x4 σ11
set_option maxHeartbeats 4000000 in
theorem t_Va_resolved_0 {x1 : Int32} {x2 : Int32} {x3 : Int32} {x4 : Int64} {σ σ' : am_S} {r : Int64} (h : g_Va_resolved x1 x2 x3 x4 σ = some (r, σ')) : am_A S_c M_Va_resolved (0, [some (.ref 37), some (.int x1), some (.int x2), some (.int x3), some (.long x4), none, none], [], σ) (am_r S_c (fun q τ => q = some (.long r) ∧ τ = σ')) := by
  unfold g_Va_resolved at h
  refine a_aload_n i_Va_resolved_0 rfl ?_
  refine a_get (v := .ref 10) i_Va_resolved_1 rfl rfl ?_
  refine a_get (v := .ref 13) i_Va_resolved_4 rfl rfl ?_
  refine a_iload_n i_Va_resolved_7 rfl ?_
  obtain ⟨c5, h⟩ := gd_some h
  refine a_ial (n := 200) i_Va_resolved_8 (by decide) rfl rfl (inb_in c5) ?_
  refine a_istore i_Va_resolved_9 rfl ?_
  refine a_iload_n i_Va_resolved_11 rfl ?_
  by_cases d8_0 : x2 = 0
  · rw [if_pos d8_0] at h
    refine a_tab 0 i_Va_resolved_12 rfl (by rw [d8_0]; decide) (by decide) rfl ?_
    refine a_aload_n i_Va_resolved_48 rfl ?_
    refine a_iload i_Va_resolved_49 rfl ?_
    refine a_iload_n i_Va_resolved_51 rfl ?_
    refine a_lload i_Va_resolved_52 rfl ?_
    obtain ⟨v13, σ13, e13, h⟩ := am_bd_some h
    refine am_cvd (rest := []) [.int (σ.2.1 13 x1.toNatClampNeg), .int x3, .long x4] c_Va_resolved_54 ⟨by decide, _, rfl⟩ rfl (Nat.le_of_ble_eq_true rfl) (t_Va_text e13) ?_
    exact am_ret_l ok_Va_resolved rfl rfl (am_lf_l h)
  rw [if_neg d8_0] at h
  by_cases d8_1 : x2 = 1
  · rw [if_pos d8_1] at h
    refine a_tab 1 i_Va_resolved_12 rfl (by rw [d8_1]; decide) (by decide) rfl ?_
    refine a_aload_n i_Va_resolved_58 rfl ?_
    refine a_iload i_Va_resolved_59 rfl ?_
    refine a_iload_n i_Va_resolved_61 rfl ?_
    refine a_lload i_Va_resolved_62 rfl ?_
    obtain ⟨v13, σ13, e13, h⟩ := am_bd_some h
    refine am_cvd (rest := []) [.int (σ.2.1 13 x1.toNatClampNeg), .int x3, .long x4] c_Va_resolved_64 ⟨by decide, _, rfl⟩ rfl (Nat.le_of_ble_eq_true rfl) (t_Va_address e13) ?_
    exact am_ret_l ok_Va_resolved rfl rfl (am_lf_l h)
  rw [if_neg d8_1] at h
  by_cases d8_2 : x2 = 2
  · rw [if_pos d8_2] at h
    refine a_tab 2 i_Va_resolved_12 rfl (by rw [d8_2]; decide) (by decide) rfl ?_
    refine a_iload_n i_Va_resolved_68 rfl ?_
    refine a_i2l i_Va_resolved_69 ?_
    obtain ⟨v11, σ11, e11, h⟩ := am_bd_some h
    refine am_csd (rest := []) [.long x3.toInt64] c_Va_resolved_70 rfl (Nat.le_of_ble_eq_true rfl) (t_Ab_isConstantForm e11) ?_
    by_cases c12 : v11 = 0
    · rw [if_pos c12] at h
      refine a_ift i_Va_resolved_73 c12 ?_
      refine a_aload_n i_Va_resolved_87 rfl ?_
      refine a_iload i_Va_resolved_88 rfl ?_
      refine a_iload_n i_Va_resolved_90 rfl ?_
      refine a_lload i_Va_resolved_91 rfl ?_
      obtain ⟨v17, σ17, e17, h⟩ := am_bd_some h
      refine am_cvd (rest := []) [.int (σ.2.1 13 x1.toNatClampNeg), .int x3, .long x4] c_Va_resolved_93 ⟨by decide, _, rfl⟩ rfl (Nat.le_of_ble_eq_true rfl) (t_Va_address e17) ?_
      exact am_wk (t_Va_resolved_96 h) ⟨Or.inl rfl, Or.inl rfl, Or.inl rfl, Or.inl rfl, Or.inl rfl, Or.inl rfl, Or.inl rfl, trivial⟩
    · rw [if_neg c12] at h
      refine a_iff i_Va_resolved_73 c12 ?_
      refine a_aload_n i_Va_resolved_76 rfl ?_
      refine a_iload_n i_Va_resolved_77 rfl ?_
      obtain ⟨v15, σ15, e15, h⟩ := am_bd_some h
      refine am_cvd (rest := []) [.int x1] c_Va_resolved_78 ⟨by decide, _, rfl⟩ rfl (Nat.le_of_ble_eq_true rfl) (t_Va_lowOf e15) ?_
      refine a_lload i_Va_resolved_81 rfl ?_
      refine a_ladd i_Va_resolved_83 ?_
      refine a_goto i_Va_resolved_84 ?_
      exact am_wk (t_Va_resolved_96 h) ⟨Or.inl rfl, Or.inl rfl, Or.inl rfl, Or.inl rfl, Or.inl rfl, Or.inl rfl, Or.inl rfl, trivial⟩
  rw [if_neg d8_2] at h
  by_cases d8_3 : x2 = 3
  · rw [if_pos d8_3] at h
    refine a_tab 3 i_Va_resolved_12 rfl (by rw [d8_3]; decide) (by decide) rfl ?_
    refine a_aload_n i_Va_resolved_97 rfl ?_
    refine a_iload i_Va_resolved_98 rfl ?_
    refine a_iload_n i_Va_resolved_100 rfl ?_
    refine a_lload i_Va_resolved_101 rfl ?_
    obtain ⟨v13, σ13, e13, h⟩ := am_bd_some h
    refine am_cvd (rest := []) [.int (σ.2.1 13 x1.toNatClampNeg), .int x3, .long x4] c_Va_resolved_103 ⟨by decide, _, rfl⟩ rfl (Nat.le_of_ble_eq_true rfl) (t_Va_listPlace e13) ?_
    exact am_ret_l ok_Va_resolved rfl rfl (am_lf_l h)
  rw [if_neg d8_3] at h
  by_cases d8_4 : x2 = 4
  · rw [if_pos d8_4] at h
    refine a_tab 4 i_Va_resolved_12 rfl (by rw [d8_4]; decide) (by decide) rfl ?_
    refine a_aload_n i_Va_resolved_107 rfl ?_
    refine a_iload i_Va_resolved_108 rfl ?_
    refine a_iload_n i_Va_resolved_110 rfl ?_
    refine a_lload i_Va_resolved_111 rfl ?_
    obtain ⟨v13, σ13, e13, h⟩ := am_bd_some h
    refine am_cvd (rest := []) [.int (σ.2.1 13 x1.toNatClampNeg), .int x3, .long x4] c_Va_resolved_113 ⟨by decide, _, rfl⟩ rfl (Nat.le_of_ble_eq_true rfl) (t_Va_origin e13) ?_
    exact am_ret_l ok_Va_resolved rfl rfl (am_lf_l h)
  rw [if_neg d8_4] at h
  refine a_tabn [0, 1, 2, 3, 4] i_Va_resolved_12 rfl rfl (by decide) (List.forall_mem_cons.mpr ⟨lv_neT d8_0 (a := 0) (by decide), List.forall_mem_cons.mpr ⟨lv_neT d8_1 (a := 1) (by decide), List.forall_mem_cons.mpr ⟨lv_neT d8_2 (a := 2) (by decide), List.forall_mem_cons.mpr ⟨lv_neT d8_3 (a := 3) (by decide), List.forall_mem_cons.mpr ⟨lv_neT d8_4 (a := 4) (by decide), fun _ h9 => absurd h9 List.not_mem_nil⟩⟩⟩⟩⟩) ?_
  refine a_iload_n i_Va_resolved_117 rfl ?_
  refine a_i2l i_Va_resolved_118 ?_
  obtain ⟨v11, σ11, e11, h⟩ := am_bd_some h
  refine am_csd (rest := []) [.long x3.toInt64] c_Va_resolved_119 rfl (Nat.le_of_ble_eq_true rfl) (t_Ab_isConstantForm e11) ?_
  by_cases c12 : v11 = 0
  · rw [if_pos c12] at h
    refine a_ift i_Va_resolved_122 c12 ?_
    refine a_aload_n i_Va_resolved_130 rfl ?_
    obtain ⟨v14, σ14, e14, h⟩ := am_bd_some h
    refine am_cvd (rest := []) [] c_Va_resolved_131 ⟨by decide, _, rfl⟩ rfl (Nat.le_of_ble_eq_true rfl) (t_Va_wrong e14) ?_
    exact am_wk (t_Va_resolved_134 h) ⟨Or.inl rfl, Or.inl rfl, Or.inl rfl, Or.inl rfl, Or.inl rfl, Or.inl rfl, Or.inl rfl, trivial⟩
  · rw [if_neg c12] at h
    refine a_iff i_Va_resolved_122 c12 ?_
    refine a_lload i_Va_resolved_125 rfl ?_
    refine a_goto i_Va_resolved_127 ?_
    exact am_wk (t_Va_resolved_134 h) ⟨Or.inl rfl, Or.inl rfl, Or.inl rfl, Or.inl rfl, Or.inl rfl, Or.inl rfl, Or.inl rfl, trivial⟩
theorem t_Va_resolved {x1 : Int32} {x2 : Int32} {x3 : Int32} {x4 : Int64} {σ σ' : am_S} {r : Int64} (h : g_Va_resolved x1 x2 x3 x4 σ = some (r, σ')) : am_Mt S_c M_Va_resolved [.ref 37, .int x1, .int x2, .int x3, .long x4] σ (fun q τ => q = some (.long r) ∧ τ = σ') :=
  am_M_of ok_Va_resolved (Nat.le_of_ble_eq_true rfl) (t_Va_resolved_0 h)
def g_Va_resolve_60 (go : Int32 → Int32 → am_S → Option (Unit × am_S)) (x1 : Int32) (x2 : Int32) (σ : am_S) : Option (Unit × am_S) :=
  go x1 (x2 + 1) σ
set_option maxHeartbeats 4000000 in
theorem t_Va_resolve_60 {x1 : Int32} {x2 : Int32} {σ σ' : am_S} {r : Unit} {go : Int32 → Int32 → am_S → Option (Unit × am_S)} (hgo : ∀ {x1 : Int32} {x2 : Int32} {σ σ' : am_S} {r : Unit}, go x1 x2 σ = some (r, σ') → am_A S_c M_Va_resolve (2, [some (.ref 37), some (.int x1), some (.int x2), none], [], σ) (am_r S_c (fun q τ => q = none ∧ τ = σ'))) (h : g_Va_resolve_60 go x1 x2 σ = some (r, σ')) : am_A S_c M_Va_resolve (60, [some (.ref 37), some (.int x1), some (.int x2), none], [], σ) (am_r S_c (fun q τ => q = none ∧ τ = σ')) := by
  unfold g_Va_resolve_60 at h
  refine a_iinc i_Va_resolve_60 rfl rfl ?_
  refine a_goto i_Va_resolve_63 ?_
  exact hgo h
def g_Va_resolve_2 : Nat → Int32 → Int32 → am_S → Option (Unit × am_S)
  | 0, _, _, _ => none
  | n + 1, x1, x2, σ =>
  if x2 < 7 then
    am_bd (g_En_has x1 x2 σ) fun v8 σ8 =>
    if v8 = 0 then
      g_Va_resolve_60 (g_Va_resolve_2 n) x1 x2 σ8
    else
      am_gd (inb ((x1 * 7) + x2) 1400) <|
      am_gd (inb ((x1 * 7) + x2) 1400) <|
      am_bd (g_Va_resolved x1 x2 (σ8.2.1 15 ((x1 * 7) + x2).toNatClampNeg) (σ8.2.2 16 ((x1 * 7) + x2).toNatClampNeg) σ8) fun v33 σ33 =>
      am_gd (inb ((x1 * 7) + x2) 1400) <|
      g_Va_resolve_60 (g_Va_resolve_2 n) x1 x2 (am_al σ33 16 ((x1 * 7) + x2).toNatClampNeg v33)
  else
    some ((), σ)
set_option maxHeartbeats 4000000 in
theorem t_Va_resolve_2 : ∀ (n : Nat) {x1 : Int32} {x2 : Int32} {σ σ' : am_S} {r : Unit} (h : g_Va_resolve_2 n x1 x2 σ = some (r, σ')), am_A S_c M_Va_resolve (2, [some (.ref 37), some (.int x1), some (.int x2), none], [], σ) (am_r S_c (fun q τ => q = none ∧ τ = σ')) := by
  intro n
  induction n with
  | zero =>
    intro x1 x2 σ σ' r h
    cases h
  | succ n ih =>
  intro x1 x2 σ σ' r h
  unfold g_Va_resolve_2 at h
  refine a_iload_n i_Va_resolve_2 rfl ?_
  refine a_bipush i_Va_resolve_3 ?_
  by_cases c3 : x2 < 7
  · rw [if_pos c3] at h
    refine a_icf i_Va_resolve_5 (Int32.not_le.mpr c3) ?_
    refine a_aload_n i_Va_resolve_8 rfl ?_
    refine a_get (v := .ref 10) i_Va_resolve_9 rfl rfl ?_
    refine a_iload_n i_Va_resolve_12 rfl ?_
    refine a_iload_n i_Va_resolve_13 rfl ?_
    obtain ⟨v8, σ8, e8, h⟩ := am_bd_some h
    refine am_cvd (rest := []) [.int x1, .int x2] c_Va_resolve_14 ⟨by decide, _, rfl⟩ rfl (Nat.le_of_ble_eq_true rfl) (t_En_has e8) ?_
    by_cases c9 : v8 = 0
    · rw [if_pos c9] at h
      refine a_ift i_Va_resolve_17 c9 ?_
      exact t_Va_resolve_60 (fun h => ih h) h
    · rw [if_neg c9] at h
      refine a_iff i_Va_resolve_17 c9 ?_
      refine a_iload_n i_Va_resolve_20 rfl ?_
      refine a_bipush i_Va_resolve_21 ?_
      refine a_imul i_Va_resolve_23 ?_
      refine a_iload_n i_Va_resolve_24 rfl ?_
      refine a_iadd i_Va_resolve_25 ?_
      refine a_istore_n i_Va_resolve_26 rfl ?_
      refine a_aload_n i_Va_resolve_27 rfl ?_
      refine a_get (v := .ref 10) i_Va_resolve_28 rfl rfl ?_
      refine a_get (v := .ref 16) i_Va_resolve_31 rfl rfl ?_
      refine a_iload_n i_Va_resolve_34 rfl ?_
      refine a_aload_n i_Va_resolve_35 rfl ?_
      refine a_iload_n i_Va_resolve_36 rfl ?_
      refine a_iload_n i_Va_resolve_37 rfl ?_
      refine a_aload_n i_Va_resolve_38 rfl ?_
      refine a_get (v := .ref 10) i_Va_resolve_39 rfl rfl ?_
      refine a_get (v := .ref 15) i_Va_resolve_42 rfl rfl ?_
      refine a_iload_n i_Va_resolve_45 rfl ?_
      obtain ⟨c27, h⟩ := gd_some h
      refine a_ial (n := 1400) i_Va_resolve_46 (by decide) rfl rfl (inb_in c27) ?_
      refine a_aload_n i_Va_resolve_47 rfl ?_
      refine a_get (v := .ref 10) i_Va_resolve_48 rfl rfl ?_
      refine a_get (v := .ref 16) i_Va_resolve_51 rfl rfl ?_
      refine a_iload_n i_Va_resolve_54 rfl ?_
      obtain ⟨c32, h⟩ := gd_some h
      refine a_lal (n := 1400) i_Va_resolve_55 rfl rfl (inb_in c32) ?_
      obtain ⟨v33, σ33, e33, h⟩ := am_bd_some h
      refine am_cvd (rest := [.int ((x1 * 7) + x2), .ref 16]) [.int x1, .int x2, .int (σ8.2.1 15 ((x1 * 7) + x2).toNatClampNeg), .long (σ8.2.2 16 ((x1 * 7) + x2).toNatClampNeg)] c_Va_resolve_56 ⟨by decide, _, rfl⟩ rfl (Nat.le_of_ble_eq_true rfl) (t_Va_resolved e33) ?_
      obtain ⟨c34, h⟩ := gd_some h
      refine a_las (n := 1400) i_Va_resolve_59 rfl rfl (inb_in c34) ?_
      exact am_wk (t_Va_resolve_60 (fun h => ih h) h) ⟨Or.inr rfl, Or.inr rfl, Or.inr rfl, Or.inl rfl, trivial⟩
  · rw [if_neg c3] at h
    refine a_ict i_Va_resolve_5 (Int32.not_lt.mp c3) ?_
    exact am_ret_v ok_Va_resolve rfl rfl (am_lf_v h)
def g_Va_resolve (x1 : Int32) (σ : am_S) : Option (Unit × am_S) :=
  g_Va_resolve_2 4000 x1 (0) σ
set_option maxHeartbeats 4000000 in
theorem t_Va_resolve_0 {x1 : Int32} {σ σ' : am_S} {r : Unit} (h : g_Va_resolve x1 σ = some (r, σ')) : am_A S_c M_Va_resolve (0, [some (.ref 37), some (.int x1), none, none], [], σ) (am_r S_c (fun q τ => q = none ∧ τ = σ')) := by
  unfold g_Va_resolve at h
  refine a_iconst i_Va_resolve_0 ?_
  refine a_istore_n i_Va_resolve_1 rfl ?_
  exact t_Va_resolve_2 4000 h
theorem t_Va_resolve {x1 : Int32} {σ σ' : am_S} {r : Unit} (h : g_Va_resolve x1 σ = some (r, σ')) : am_Mt S_c M_Va_resolve [.ref 37, .int x1] σ (fun q τ => q = none ∧ τ = σ') :=
  am_M_of ok_Va_resolve (Nat.le_of_ble_eq_true rfl) (t_Va_resolve_0 h)
def g_Va_addRange_17 (σ : am_S) : Option (Unit × am_S) :=
  some ((), σ)
set_option maxHeartbeats 4000000 in
theorem t_Va_addRange_17 {σ σ' : am_S} {r : Unit} (h : g_Va_addRange_17 σ = some (r, σ')) : am_A S_c M_Va_addRange (17, [none, none, none, none, none], [], σ) (am_r S_c (fun q τ => q = none ∧ τ = σ')) := by
  unfold g_Va_addRange_17 at h
  exact am_ret_v ok_Va_addRange rfl rfl (am_lf_v h)
def g_Va_addRange (x1 : Int64) (x3 : Int64) (σ : am_S) : Option (Unit × am_S) :=
  am_bd (g_Ra_add x1 x3 σ) fun v5 σ5 =>
  if v5 = 0 then
    am_bd (g_Va_wrong σ5) fun v8 σ8 =>
    g_Va_addRange_17 σ8
  else
    g_Va_addRange_17 σ5
set_option maxHeartbeats 4000000 in
theorem t_Va_addRange_0 {x1 : Int64} {x3 : Int64} {σ σ' : am_S} {r : Unit} (h : g_Va_addRange x1 x3 σ = some (r, σ')) : am_A S_c M_Va_addRange (0, [some (.ref 37), some (.long x1), none, some (.long x3), none], [], σ) (am_r S_c (fun q τ => q = none ∧ τ = σ')) := by
  unfold g_Va_addRange at h
  refine a_aload_n i_Va_addRange_0 rfl ?_
  refine a_get (v := .ref 32) i_Va_addRange_1 rfl rfl ?_
  refine a_lload_n i_Va_addRange_4 rfl ?_
  refine a_lload_n i_Va_addRange_5 rfl ?_
  obtain ⟨v5, σ5, e5, h⟩ := am_bd_some h
  refine am_cvd (rest := []) [.long x1, .long x3] c_Va_addRange_6 ⟨by decide, _, rfl⟩ rfl (Nat.le_of_ble_eq_true rfl) (t_Ra_add e5) ?_
  by_cases c6 : v5 = 0
  · rw [if_pos c6] at h
    refine a_iff i_Va_addRange_9 c6 ?_
    refine a_aload_n i_Va_addRange_12 rfl ?_
    obtain ⟨v8, σ8, e8, h⟩ := am_bd_some h
    refine am_cvd (rest := []) [] c_Va_addRange_13 ⟨by decide, _, rfl⟩ rfl (Nat.le_of_ble_eq_true rfl) (t_Va_wrong e8) ?_
    refine a_pop2_l i_Va_addRange_16 ?_
    exact am_wk (t_Va_addRange_17 h) ⟨Or.inl rfl, Or.inl rfl, Or.inl rfl, Or.inl rfl, Or.inl rfl, trivial⟩
  · rw [if_neg c6] at h
    refine a_ift i_Va_addRange_9 c6 ?_
    exact am_wk (t_Va_addRange_17 h) ⟨Or.inl rfl, Or.inl rfl, Or.inl rfl, Or.inl rfl, Or.inl rfl, trivial⟩
theorem t_Va_addRange {x1 : Int64} {x3 : Int64} {σ σ' : am_S} {r : Unit} (h : g_Va_addRange x1 x3 σ = some (r, σ')) : am_Mt S_c M_Va_addRange [.ref 37, .long x1, .long x3] σ (fun q τ => q = none ∧ τ = σ') :=
  am_M_of ok_Va_addRange (Nat.le_of_ble_eq_true rfl) (t_Va_addRange_0 h)
def g_Va_rangeEnd_45 (y0 : Int64) (σ : am_S) : Option (Int64 × am_S) :=
  some (y0, σ)
set_option maxHeartbeats 4000000 in
theorem t_Va_rangeEnd_45 {y0 : Int64} {σ σ' : am_S} {r : Int64} (h : g_Va_rangeEnd_45 y0 σ = some (r, σ')) : am_A S_c M_Va_rangeEnd (45, [none, none, none, none, none], [.long y0], σ) (am_r S_c (fun q τ => q = some (.long r) ∧ τ = σ')) := by
  unfold g_Va_rangeEnd_45 at h
  exact am_ret_l ok_Va_rangeEnd rfl rfl (am_lf_l h)
def g_Va_rangeEnd (x1 : Int32) (x2 : Int32) (x3 : Int64) (σ : am_S) : Option (Int64 × am_S) :=
  if x2 = 2 then
    am_bd (g_Cu_uleb 38 σ) fun v8 σ8 =>
    am_bd (g_Va_addressAt x1 v8 σ8) fun v9 σ9 =>
    some (v9, σ9)
  else
    if x2 = 6 then
      am_bd (g_Cu_number 38 (8) σ) fun v10 σ10 =>
      g_Va_rangeEnd_45 v10 σ10
    else
      am_bd (g_Cu_uleb 38 σ) fun v10 σ10 =>
      g_Va_rangeEnd_45 (x3 + v10) σ10
set_option maxHeartbeats 4000000 in
theorem t_Va_rangeEnd_0 {x1 : Int32} {x2 : Int32} {x3 : Int64} {σ σ' : am_S} {r : Int64} (h : g_Va_rangeEnd x1 x2 x3 σ = some (r, σ')) : am_A S_c M_Va_rangeEnd (0, [some (.ref 37), some (.int x1), some (.int x2), some (.long x3), none], [], σ) (am_r S_c (fun q τ => q = some (.long r) ∧ τ = σ')) := by
  unfold g_Va_rangeEnd at h
  refine a_iload_n i_Va_rangeEnd_0 rfl ?_
  refine a_iconst i_Va_rangeEnd_1 ?_
  by_cases c3 : x2 = 2
  · rw [if_pos c3] at h
    refine a_icf i_Va_rangeEnd_2 c3 ?_
    refine a_aload_n i_Va_rangeEnd_5 rfl ?_
    refine a_iload_n i_Va_rangeEnd_6 rfl ?_
    refine a_aload_n i_Va_rangeEnd_7 rfl ?_
    refine a_get (v := .ref 38) i_Va_rangeEnd_8 rfl rfl ?_
    obtain ⟨v8, σ8, e8, h⟩ := am_bd_some h
    refine am_cvd (rest := [.int x1, .ref 37]) [] c_Va_rangeEnd_11 ⟨by decide, _, rfl⟩ rfl (Nat.le_of_ble_eq_true rfl) (t_Cu_uleb cu_38 e8) ?_
    obtain ⟨v9, σ9, e9, h⟩ := am_bd_some h
    refine am_cvd (rest := []) [.int x1, .long v8] c_Va_rangeEnd_14 ⟨by decide, _, rfl⟩ rfl (Nat.le_of_ble_eq_true rfl) (t_Va_addressAt e9) ?_
    exact am_ret_l ok_Va_rangeEnd rfl rfl (am_lf_l h)
  · rw [if_neg c3] at h
    refine a_ict i_Va_rangeEnd_2 c3 ?_
    refine a_iload_n i_Va_rangeEnd_18 rfl ?_
    refine a_bipush i_Va_rangeEnd_19 ?_
    by_cases c6 : x2 = 6
    · rw [if_pos c6] at h
      refine a_icf i_Va_rangeEnd_21 c6 ?_
      refine a_aload_n i_Va_rangeEnd_24 rfl ?_
      refine a_get (v := .ref 38) i_Va_rangeEnd_25 rfl rfl ?_
      refine a_bipush i_Va_rangeEnd_28 ?_
      obtain ⟨v10, σ10, e10, h⟩ := am_bd_some h
      refine am_cvd (rest := []) [.int 8] c_Va_rangeEnd_30 ⟨by decide, _, rfl⟩ rfl (Nat.le_of_ble_eq_true rfl) (t_Cu_number cu_38 e10) ?_
      refine a_goto i_Va_rangeEnd_33 ?_
      exact am_wk (t_Va_rangeEnd_45 h) ⟨Or.inl rfl, Or.inl rfl, Or.inl rfl, Or.inl rfl, Or.inl rfl, trivial⟩
    · rw [if_neg c6] at h
      refine a_ict i_Va_rangeEnd_21 c6 ?_
      refine a_lload_n i_Va_rangeEnd_36 rfl ?_
      refine a_aload_n i_Va_rangeEnd_37 rfl ?_
      refine a_get (v := .ref 38) i_Va_rangeEnd_38 rfl rfl ?_
      obtain ⟨v10, σ10, e10, h⟩ := am_bd_some h
      refine am_cvd (rest := [.long x3]) [] c_Va_rangeEnd_41 ⟨by decide, _, rfl⟩ rfl (Nat.le_of_ble_eq_true rfl) (t_Cu_uleb cu_38 e10) ?_
      refine a_ladd i_Va_rangeEnd_44 ?_
      exact am_wk (t_Va_rangeEnd_45 h) ⟨Or.inl rfl, Or.inl rfl, Or.inl rfl, Or.inl rfl, Or.inl rfl, trivial⟩
theorem t_Va_rangeEnd {x1 : Int32} {x2 : Int32} {x3 : Int64} {σ σ' : am_S} {r : Int64} (h : g_Va_rangeEnd x1 x2 x3 σ = some (r, σ')) : am_Mt S_c M_Va_rangeEnd [.ref 37, .int x1, .int x2, .long x3] σ (fun q τ => q = some (.long r) ∧ τ = σ') :=
  am_M_of ok_Va_rangeEnd (Nat.le_of_ble_eq_true rfl) (t_Va_rangeEnd_0 h)
def g_Va_readPiece_155 (σ : am_S) : Option (Unit × am_S) :=
  some ((), σ)
set_option maxHeartbeats 4000000 in
theorem t_Va_readPiece_155 {σ σ' : am_S} {r : Unit} (h : g_Va_readPiece_155 σ = some (r, σ')) : am_A S_c M_Va_readPiece (155, [none, none, none, none, none], [], σ) (am_r S_c (fun q τ => q = none ∧ τ = σ')) := by
  unfold g_Va_readPiece_155 at h
  exact am_ret_v ok_Va_readPiece rfl rfl (am_lf_v h)
def g_Va_readPiece_134 (x1 : Int32) (x2 : Int32) (y0 : Int64) (σ : am_S) : Option (Unit × am_S) :=
  am_bd (g_Va_rangeEnd x1 x2 y0 σ) fun v8 σ8 =>
  am_bd (g_Va_addRange y0 v8 σ8) fun _ σ9 =>
  g_Va_readPiece_155 σ9
set_option maxHeartbeats 4000000 in
theorem t_Va_readPiece_134 {x1 : Int32} {x2 : Int32} {y0 : Int64} {σ σ' : am_S} {r : Unit} (h : g_Va_readPiece_134 x1 x2 y0 σ = some (r, σ')) : am_A S_c M_Va_readPiece (134, [some (.ref 37), some (.int x1), some (.int x2), none, none], [.long y0], σ) (am_r S_c (fun q τ => q = none ∧ τ = σ')) := by
  unfold g_Va_readPiece_134 at h
  refine a_lstore_n i_Va_readPiece_134 rfl ?_
  refine a_aload_n i_Va_readPiece_135 rfl ?_
  refine a_lload_n i_Va_readPiece_136 rfl ?_
  refine a_aload_n i_Va_readPiece_137 rfl ?_
  refine a_iload_n i_Va_readPiece_138 rfl ?_
  refine a_iload_n i_Va_readPiece_139 rfl ?_
  refine a_lload_n i_Va_readPiece_140 rfl ?_
  obtain ⟨v8, σ8, e8, h⟩ := am_bd_some h
  refine am_cvd (rest := [.long y0, .ref 37]) [.int x1, .int x2, .long y0] c_Va_readPiece_141 ⟨by decide, _, rfl⟩ rfl (Nat.le_of_ble_eq_true rfl) (t_Va_rangeEnd e8) ?_
  obtain ⟨v9, σ9, e9, h⟩ := am_bd_some h
  refine am_cvd (rest := []) [.long y0, .long v8] c_Va_readPiece_144 ⟨by decide, _, rfl⟩ rfl (Nat.le_of_ble_eq_true rfl) (t_Va_addRange e9) ?_
  refine a_goto i_Va_readPiece_147 ?_
  exact am_wk (t_Va_readPiece_155 h) ⟨Or.inl rfl, Or.inl rfl, Or.inl rfl, Or.inl rfl, Or.inl rfl, trivial⟩
def g_Va_readPiece_105 (x1 : Int32) (x2 : Int32) (σ : am_S) : Option (Unit × am_S) :=
  if x2 < 4 then
    am_bd (g_Cu_uleb 38 σ) fun v8 σ8 =>
    am_bd (g_Va_addressAt x1 v8 σ8) fun v9 σ9 =>
    g_Va_readPiece_134 x1 x2 v9 σ9
  else
    am_bd (g_Cu_number 38 (8) σ) fun v7 σ7 =>
    g_Va_readPiece_134 x1 x2 v7 σ7
set_option maxHeartbeats 4000000 in
theorem t_Va_readPiece_105 {x1 : Int32} {x2 : Int32} {σ σ' : am_S} {r : Unit} (h : g_Va_readPiece_105 x1 x2 σ = some (r, σ')) : am_A S_c M_Va_readPiece (105, [some (.ref 37), some (.int x1), some (.int x2), none, none], [], σ) (am_r S_c (fun q τ => q = none ∧ τ = σ')) := by
  unfold g_Va_readPiece_105 at h
  refine a_iload_n i_Va_readPiece_105 rfl ?_
  refine a_iconst i_Va_readPiece_106 ?_
  by_cases c3 : x2 < 4
  · rw [if_pos c3] at h
    refine a_icf i_Va_readPiece_107 (Int32.not_le.mpr c3) ?_
    refine a_aload_n i_Va_readPiece_110 rfl ?_
    refine a_iload_n i_Va_readPiece_111 rfl ?_
    refine a_aload_n i_Va_readPiece_112 rfl ?_
    refine a_get (v := .ref 38) i_Va_readPiece_113 rfl rfl ?_
    obtain ⟨v8, σ8, e8, h⟩ := am_bd_some h
    refine am_cvd (rest := [.int x1, .ref 37]) [] c_Va_readPiece_116 ⟨by decide, _, rfl⟩ rfl (Nat.le_of_ble_eq_true rfl) (t_Cu_uleb cu_38 e8) ?_
    obtain ⟨v9, σ9, e9, h⟩ := am_bd_some h
    refine am_cvd (rest := []) [.int x1, .long v8] c_Va_readPiece_119 ⟨by decide, _, rfl⟩ rfl (Nat.le_of_ble_eq_true rfl) (t_Va_addressAt e9) ?_
    refine a_goto i_Va_readPiece_122 ?_
    exact t_Va_readPiece_134 h
  · rw [if_neg c3] at h
    refine a_ict i_Va_readPiece_107 (Int32.not_lt.mp c3) ?_
    refine a_aload_n i_Va_readPiece_125 rfl ?_
    refine a_get (v := .ref 38) i_Va_readPiece_126 rfl rfl ?_
    refine a_bipush i_Va_readPiece_129 ?_
    obtain ⟨v7, σ7, e7, h⟩ := am_bd_some h
    refine am_cvd (rest := []) [.int 8] c_Va_readPiece_131 ⟨by decide, _, rfl⟩ rfl (Nat.le_of_ble_eq_true rfl) (t_Cu_number cu_38 e7) ?_
    exact t_Va_readPiece_134 h
def g_Va_readPiece (x1 : Int32) (x2 : Int32) (σ : am_S) : Option (Unit × am_S) :=
  if x2 = 1 then
    am_bd (g_Cu_uleb 38 σ) fun v9 σ9 =>
    am_bd (g_Va_addressAt x1 v9 σ9) fun v10 σ10 =>
    g_Va_readPiece_155 (am_fl σ10 37 5 v10)
  else
    if x2 = 5 then
      am_bd (g_Cu_number 38 (8) σ) fun v11 σ11 =>
      g_Va_readPiece_155 (am_fl σ11 37 5 v11)
    else
      if x2 = 4 then
        am_bd (g_Cu_uleb 38 σ) fun v14 σ14 =>
        am_bd (g_Cu_uleb 38 σ14) fun v23 σ23 =>
        am_bd (g_Va_addRange ((σ.1.2 37 5) + v14) ((σ14.1.2 37 5) + v23) σ23) fun _ σ25 =>
        g_Va_readPiece_155 σ25
      else
        if x2 = 2 then
          g_Va_readPiece_105 x1 x2 σ
        else
          if x2 = 3 then
            g_Va_readPiece_105 x1 x2 σ
          else
            if x2 = 6 then
              g_Va_readPiece_105 x1 x2 σ
            else
              if x2 = 7 then
                g_Va_readPiece_105 x1 x2 σ
              else
                am_bd (g_Va_wrong σ) fun v23 σ23 =>
                g_Va_readPiece_155 σ23
set_option maxHeartbeats 4000000 in
theorem t_Va_readPiece_0 {x1 : Int32} {x2 : Int32} {σ σ' : am_S} {r : Unit} (h : g_Va_readPiece x1 x2 σ = some (r, σ')) : am_A S_c M_Va_readPiece (0, [some (.ref 37), some (.int x1), some (.int x2), none, none], [], σ) (am_r S_c (fun q τ => q = none ∧ τ = σ')) := by
  unfold g_Va_readPiece at h
  refine a_iload_n i_Va_readPiece_0 rfl ?_
  refine a_iconst i_Va_readPiece_1 ?_
  by_cases c3 : x2 = 1
  · rw [if_pos c3] at h
    refine a_icf i_Va_readPiece_2 c3 ?_
    refine a_aload_n i_Va_readPiece_5 rfl ?_
    refine a_aload_n i_Va_readPiece_6 rfl ?_
    refine a_iload_n i_Va_readPiece_7 rfl ?_
    refine a_aload_n i_Va_readPiece_8 rfl ?_
    refine a_get (v := .ref 38) i_Va_readPiece_9 rfl rfl ?_
    obtain ⟨v9, σ9, e9, h⟩ := am_bd_some h
    refine am_cvd (rest := [.int x1, .ref 37, .ref 37]) [] c_Va_readPiece_12 ⟨by decide, _, rfl⟩ rfl (Nat.le_of_ble_eq_true rfl) (t_Cu_uleb cu_38 e9) ?_
    obtain ⟨v10, σ10, e10, h⟩ := am_bd_some h
    refine am_cvd (rest := [.ref 37]) [.int x1, .long v9] c_Va_readPiece_15 ⟨by decide, _, rfl⟩ rfl (Nat.le_of_ble_eq_true rfl) (t_Va_addressAt e10) ?_
    refine a_putl i_Va_readPiece_18 rfl ?_
    refine a_goto i_Va_readPiece_21 ?_
    exact am_wk (t_Va_readPiece_155 h) ⟨Or.inl rfl, Or.inl rfl, Or.inl rfl, Or.inl rfl, Or.inl rfl, trivial⟩
  · rw [if_neg c3] at h
    refine a_ict i_Va_readPiece_2 c3 ?_
    refine a_iload_n i_Va_readPiece_24 rfl ?_
    refine a_iconst i_Va_readPiece_25 ?_
    by_cases c6 : x2 = 5
    · rw [if_pos c6] at h
      refine a_icf i_Va_readPiece_26 c6 ?_
      refine a_aload_n i_Va_readPiece_29 rfl ?_
      refine a_aload_n i_Va_readPiece_30 rfl ?_
      refine a_get (v := .ref 38) i_Va_readPiece_31 rfl rfl ?_
      refine a_bipush i_Va_readPiece_34 ?_
      obtain ⟨v11, σ11, e11, h⟩ := am_bd_some h
      refine am_cvd (rest := [.ref 37]) [.int 8] c_Va_readPiece_36 ⟨by decide, _, rfl⟩ rfl (Nat.le_of_ble_eq_true rfl) (t_Cu_number cu_38 e11) ?_
      refine a_putl i_Va_readPiece_39 rfl ?_
      refine a_goto i_Va_readPiece_42 ?_
      exact am_wk (t_Va_readPiece_155 h) ⟨Or.inl rfl, Or.inl rfl, Or.inl rfl, Or.inl rfl, Or.inl rfl, trivial⟩
    · rw [if_neg c6] at h
      refine a_ict i_Va_readPiece_26 c6 ?_
      refine a_iload_n i_Va_readPiece_45 rfl ?_
      refine a_iconst i_Va_readPiece_46 ?_
      by_cases c9 : x2 = 4
      · rw [if_pos c9] at h
        refine a_icf i_Va_readPiece_47 c9 ?_
        refine a_aload_n i_Va_readPiece_50 rfl ?_
        refine a_get (v := .long (σ.1.2 37 5)) i_Va_readPiece_51 rfl rfl ?_
        refine a_aload_n i_Va_readPiece_54 rfl ?_
        refine a_get (v := .ref 38) i_Va_readPiece_55 rfl rfl ?_
        obtain ⟨v14, σ14, e14, h⟩ := am_bd_some h
        refine am_cvd (rest := [.long (σ.1.2 37 5)]) [] c_Va_readPiece_58 ⟨by decide, _, rfl⟩ rfl (Nat.le_of_ble_eq_true rfl) (t_Cu_uleb cu_38 e14) ?_
        refine a_ladd i_Va_readPiece_61 ?_
        refine a_lstore_n i_Va_readPiece_62 rfl ?_
        refine a_aload_n i_Va_readPiece_63 rfl ?_
        refine a_lload_n i_Va_readPiece_64 rfl ?_
        refine a_aload_n i_Va_readPiece_65 rfl ?_
        refine a_get (v := .long (σ14.1.2 37 5)) i_Va_readPiece_66 rfl rfl ?_
        refine a_aload_n i_Va_readPiece_69 rfl ?_
        refine a_get (v := .ref 38) i_Va_readPiece_70 rfl rfl ?_
        obtain ⟨v23, σ23, e23, h⟩ := am_bd_some h
        refine am_cvd (rest := [.long (σ14.1.2 37 5), .long ((σ.1.2 37 5) + v14), .ref 37]) [] c_Va_readPiece_73 ⟨by decide, _, rfl⟩ rfl (Nat.le_of_ble_eq_true rfl) (t_Cu_uleb cu_38 e23) ?_
        refine a_ladd i_Va_readPiece_76 ?_
        obtain ⟨v25, σ25, e25, h⟩ := am_bd_some h
        refine am_cvd (rest := []) [.long ((σ.1.2 37 5) + v14), .long ((σ14.1.2 37 5) + v23)] c_Va_readPiece_77 ⟨by decide, _, rfl⟩ rfl (Nat.le_of_ble_eq_true rfl) (t_Va_addRange e25) ?_
        refine a_goto i_Va_readPiece_80 ?_
        exact am_wk (t_Va_readPiece_155 h) ⟨Or.inl rfl, Or.inl rfl, Or.inl rfl, Or.inl rfl, Or.inl rfl, trivial⟩
      · rw [if_neg c9] at h
        refine a_ict i_Va_readPiece_47 c9 ?_
        refine a_iload_n i_Va_readPiece_83 rfl ?_
        refine a_iconst i_Va_readPiece_84 ?_
        by_cases c12 : x2 = 2
        · rw [if_pos c12] at h
          refine a_ict i_Va_readPiece_85 c12 ?_
          exact t_Va_readPiece_105 h
        · rw [if_neg c12] at h
          refine a_icf i_Va_readPiece_85 c12 ?_
          refine a_iload_n i_Va_readPiece_88 rfl ?_
          refine a_iconst i_Va_readPiece_89 ?_
          by_cases c15 : x2 = 3
          · rw [if_pos c15] at h
            refine a_ict i_Va_readPiece_90 c15 ?_
            exact t_Va_readPiece_105 h
          · rw [if_neg c15] at h
            refine a_icf i_Va_readPiece_90 c15 ?_
            refine a_iload_n i_Va_readPiece_93 rfl ?_
            refine a_bipush i_Va_readPiece_94 ?_
            by_cases c18 : x2 = 6
            · rw [if_pos c18] at h
              refine a_ict i_Va_readPiece_96 c18 ?_
              exact t_Va_readPiece_105 h
            · rw [if_neg c18] at h
              refine a_icf i_Va_readPiece_96 c18 ?_
              refine a_iload_n i_Va_readPiece_99 rfl ?_
              refine a_bipush i_Va_readPiece_100 ?_
              by_cases c21 : x2 = 7
              · rw [if_pos c21] at h
                refine a_icf i_Va_readPiece_102 c21 ?_
                exact t_Va_readPiece_105 h
              · rw [if_neg c21] at h
                refine a_ict i_Va_readPiece_102 c21 ?_
                refine a_aload_n i_Va_readPiece_150 rfl ?_
                obtain ⟨v23, σ23, e23, h⟩ := am_bd_some h
                refine am_cvd (rest := []) [] c_Va_readPiece_151 ⟨by decide, _, rfl⟩ rfl (Nat.le_of_ble_eq_true rfl) (t_Va_wrong e23) ?_
                refine a_pop2_l i_Va_readPiece_154 ?_
                exact am_wk (t_Va_readPiece_155 h) ⟨Or.inl rfl, Or.inl rfl, Or.inl rfl, Or.inl rfl, Or.inl rfl, trivial⟩
theorem t_Va_readPiece {x1 : Int32} {x2 : Int32} {σ σ' : am_S} {r : Unit} (h : g_Va_readPiece x1 x2 σ = some (r, σ')) : am_Mt S_c M_Va_readPiece [.ref 37, .int x1, .int x2] σ (fun q τ => q = none ∧ τ = σ') :=
  am_M_of ok_Va_readPiece (Nat.le_of_ble_eq_true rfl) (t_Va_readPiece_0 h)
def g_Va_readList_122 (go : Int32 → Int32 → am_S → Option (Unit × am_S)) (x2 : Int32) (x3 : Int32) (y0 : Int32) (σ : am_S) : Option (Unit × am_S) :=
  am_gd (z01 y0) <|
  go x2 (x3 + 1) (am_fi σ 37 6 y0)
set_option maxHeartbeats 4000000 in
theorem t_Va_readList_122 {x2 : Int32} {x3 : Int32} {y0 : Int32} {σ σ' : am_S} {r : Unit} {go : Int32 → Int32 → am_S → Option (Unit × am_S)} (hgo : ∀ {x2 : Int32} {x3 : Int32} {σ σ' : am_S} {r : Unit}, go x2 x3 σ = some (r, σ') → am_A S_c M_Va_readList (51, [some (.ref 37), none, some (.int x2), some (.int x3), none], [], σ) (am_r S_c (fun q τ => q = none ∧ τ = σ'))) (h : g_Va_readList_122 go x2 x3 y0 σ = some (r, σ')) : am_A S_c M_Va_readList (122, [some (.ref 37), none, some (.int x2), some (.int x3), none], [.int y0, .ref 37], σ) (am_r S_c (fun q τ => q = none ∧ τ = σ')) := by
  unfold g_Va_readList_122 at h
  obtain ⟨c1, h⟩ := gd_some h
  refine a_puti i_Va_readList_122 rfl (z01_or c1) ?_
  refine a_iinc i_Va_readList_125 rfl rfl ?_
  refine a_goto i_Va_readList_128 ?_
  exact hgo h
def g_Va_readList_117 (go : Int32 → Int32 → am_S → Option (Unit × am_S)) (x2 : Int32) (x3 : Int32) (σ : am_S) : Option (Unit × am_S) :=
  g_Va_readList_122 go x2 x3 (1) σ
set_option maxHeartbeats 4000000 in
theorem t_Va_readList_117 {x2 : Int32} {x3 : Int32} {σ σ' : am_S} {r : Unit} {go : Int32 → Int32 → am_S → Option (Unit × am_S)} (hgo : ∀ {x2 : Int32} {x3 : Int32} {σ σ' : am_S} {r : Unit}, go x2 x3 σ = some (r, σ') → am_A S_c M_Va_readList (51, [some (.ref 37), none, some (.int x2), some (.int x3), none], [], σ) (am_r S_c (fun q τ => q = none ∧ τ = σ'))) (h : g_Va_readList_117 go x2 x3 σ = some (r, σ')) : am_A S_c M_Va_readList (117, [some (.ref 37), none, some (.int x2), some (.int x3), none], [.ref 37], σ) (am_r S_c (fun q τ => q = none ∧ τ = σ')) := by
  unfold g_Va_readList_117 at h
  refine a_iconst i_Va_readList_117 ?_
  refine a_goto i_Va_readList_118 ?_
  exact t_Va_readList_122 hgo h
def g_Va_readList_92 (go : Int32 → Int32 → am_S → Option (Unit × am_S)) (x2 : Int32) (x3 : Int32) (x4 : Int32) (σ : am_S) : Option (Unit × am_S) :=
  am_bd (g_Va_readPiece x2 x4 σ) fun _ σ4 =>
  if (σ4.1.1 37 6) = 0 then
    if (σ4.1.1 38 3) = 0 then
      g_Va_readList_122 go x2 x3 (0) σ4
    else
      g_Va_readList_117 go x2 x3 σ4
  else
    g_Va_readList_117 go x2 x3 σ4
set_option maxHeartbeats 4000000 in
theorem t_Va_readList_92 {x2 : Int32} {x3 : Int32} {x4 : Int32} {σ σ' : am_S} {r : Unit} {go : Int32 → Int32 → am_S → Option (Unit × am_S)} (hgo : ∀ {x2 : Int32} {x3 : Int32} {σ σ' : am_S} {r : Unit}, go x2 x3 σ = some (r, σ') → am_A S_c M_Va_readList (51, [some (.ref 37), none, some (.int x2), some (.int x3), none], [], σ) (am_r S_c (fun q τ => q = none ∧ τ = σ'))) (h : g_Va_readList_92 go x2 x3 x4 σ = some (r, σ')) : am_A S_c M_Va_readList (92, [some (.ref 37), none, some (.int x2), some (.int x3), some (.int x4)], [], σ) (am_r S_c (fun q τ => q = none ∧ τ = σ')) := by
  unfold g_Va_readList_92 at h
  refine a_aload_n i_Va_readList_92 rfl ?_
  refine a_iload_n i_Va_readList_93 rfl ?_
  refine a_iload i_Va_readList_94 rfl ?_
  obtain ⟨v4, σ4, e4, h⟩ := am_bd_some h
  refine am_cvd (rest := []) [.int x2, .int x4] c_Va_readList_96 ⟨by decide, _, rfl⟩ rfl (Nat.le_of_ble_eq_true rfl) (t_Va_readPiece e4) ?_
  refine a_aload_n i_Va_readList_99 rfl ?_
  refine a_aload_n i_Va_readList_100 rfl ?_
  refine a_get (v := .int (σ4.1.1 37 6)) i_Va_readList_101 rfl rfl ?_
  by_cases c8 : (σ4.1.1 37 6) = 0
  · rw [if_pos c8] at h
    refine a_iff i_Va_readList_104 c8 ?_
    refine a_aload_n i_Va_readList_107 rfl ?_
    refine a_get (v := .ref 38) i_Va_readList_108 rfl rfl ?_
    refine a_get (v := .int (σ4.1.1 38 3)) i_Va_readList_111 rfl rfl ?_
    by_cases c12 : (σ4.1.1 38 3) = 0
    · rw [if_pos c12] at h
      refine a_ift i_Va_readList_114 c12 ?_
      refine a_iconst i_Va_readList_121 ?_
      exact am_wk (t_Va_readList_122 hgo h) ⟨Or.inr rfl, Or.inl rfl, Or.inr rfl, Or.inr rfl, Or.inl rfl, trivial⟩
    · rw [if_neg c12] at h
      refine a_iff i_Va_readList_114 c12 ?_
      exact am_wk (t_Va_readList_117 hgo h) ⟨Or.inr rfl, Or.inl rfl, Or.inr rfl, Or.inr rfl, Or.inl rfl, trivial⟩
  · rw [if_neg c8] at h
    refine a_ift i_Va_readList_104 c8 ?_
    exact am_wk (t_Va_readList_117 hgo h) ⟨Or.inr rfl, Or.inl rfl, Or.inr rfl, Or.inr rfl, Or.inl rfl, trivial⟩
def g_Va_readList_131 (σ : am_S) : Option (Unit × am_S) :=
  some ((), σ)
set_option maxHeartbeats 4000000 in
theorem t_Va_readList_131 {σ σ' : am_S} {r : Unit} (h : g_Va_readList_131 σ = some (r, σ')) : am_A S_c M_Va_readList (131, [none, none, none, none, none], [], σ) (am_r S_c (fun q τ => q = none ∧ τ = σ')) := by
  unfold g_Va_readList_131 at h
  exact am_ret_v ok_Va_readList rfl rfl (am_lf_v h)
def g_Va_readList_51 : Nat → Int32 → Int32 → am_S → Option (Unit × am_S)
  | 0, _, _, _ => none
  | n + 1, x2, x3, σ =>
  if x3 < 3000 then
    if (σ.1.1 37 6) = 0 then
      am_bd (g_Cu_number 38 (1) σ) fun v10 σ10 =>
      if v10.toInt32 = 0 then
        if (σ10.1.1 38 3) = 0 then
          some ((), σ10)
        else
          g_Va_readList_92 (g_Va_readList_51 n) x2 x3 v10.toInt32 σ10
      else
        g_Va_readList_92 (g_Va_readList_51 n) x2 x3 v10.toInt32 σ10
    else
      g_Va_readList_131 σ
  else
    g_Va_readList_131 σ
set_option maxHeartbeats 4000000 in
theorem t_Va_readList_51 : ∀ (n : Nat) {x2 : Int32} {x3 : Int32} {σ σ' : am_S} {r : Unit} (h : g_Va_readList_51 n x2 x3 σ = some (r, σ')), am_A S_c M_Va_readList (51, [some (.ref 37), none, some (.int x2), some (.int x3), none], [], σ) (am_r S_c (fun q τ => q = none ∧ τ = σ')) := by
  intro n
  induction n with
  | zero =>
    intro x2 x3 σ σ' r h
    cases h
  | succ n ih =>
  intro x2 x3 σ σ' r h
  unfold g_Va_readList_51 at h
  refine a_iload_n i_Va_readList_51 rfl ?_
  refine a_sipush i_Va_readList_52 ?_
  by_cases c3 : x3 < 3000
  · rw [if_pos c3] at h
    refine a_icf i_Va_readList_55 (Int32.not_le.mpr c3) ?_
    refine a_aload_n i_Va_readList_58 rfl ?_
    refine a_get (v := .int (σ.1.1 37 6)) i_Va_readList_59 rfl rfl ?_
    by_cases c6 : (σ.1.1 37 6) = 0
    · rw [if_pos c6] at h
      refine a_iff i_Va_readList_62 c6 ?_
      refine a_aload_n i_Va_readList_65 rfl ?_
      refine a_get (v := .ref 38) i_Va_readList_66 rfl rfl ?_
      refine a_iconst i_Va_readList_69 ?_
      obtain ⟨v10, σ10, e10, h⟩ := am_bd_some h
      refine am_cvd (rest := []) [.int 1] c_Va_readList_70 ⟨by decide, _, rfl⟩ rfl (Nat.le_of_ble_eq_true rfl) (t_Cu_number cu_38 e10) ?_
      refine a_l2i i_Va_readList_73 ?_
      refine a_istore i_Va_readList_74 rfl ?_
      refine a_iload i_Va_readList_76 rfl ?_
      by_cases c14 : v10.toInt32 = 0
      · rw [if_pos c14] at h
        refine a_iff i_Va_readList_78 c14 ?_
        refine a_aload_n i_Va_readList_81 rfl ?_
        refine a_get (v := .ref 38) i_Va_readList_82 rfl rfl ?_
        refine a_get (v := .int (σ10.1.1 38 3)) i_Va_readList_85 rfl rfl ?_
        by_cases c18 : (σ10.1.1 38 3) = 0
        · rw [if_pos c18] at h
          refine a_iff i_Va_readList_88 c18 ?_
          exact am_ret_v ok_Va_readList rfl rfl (am_lf_v h)
        · rw [if_neg c18] at h
          refine a_ift i_Va_readList_88 c18 ?_
          exact t_Va_readList_92 (fun h => ih h) h
      · rw [if_neg c14] at h
        refine a_ift i_Va_readList_78 c14 ?_
        exact t_Va_readList_92 (fun h => ih h) h
    · rw [if_neg c6] at h
      refine a_ift i_Va_readList_62 c6 ?_
      exact am_wk (t_Va_readList_131 h) ⟨Or.inl rfl, Or.inl rfl, Or.inl rfl, Or.inl rfl, Or.inl rfl, trivial⟩
  · rw [if_neg c3] at h
    refine a_ict i_Va_readList_55 (Int32.not_lt.mp c3) ?_
    exact am_wk (t_Va_readList_131 h) ⟨Or.inl rfl, Or.inl rfl, Or.inl rfl, Or.inl rfl, Or.inl rfl, trivial⟩
def g_Va_readList (x1 : Int32) (σ : am_S) : Option (Unit × am_S) :=
  am_gd (inb x1 200) <|
  am_gd (inb (σ.2.1 13 x1.toNatClampNeg) 4) <|
  am_bd (g_Va_lowOf (σ.2.1 18 (σ.2.1 13 x1.toNatClampNeg).toNatClampNeg) σ) fun v14 σ14 =>
  am_bd (g_En_valueOf x1 (3) (am_fl σ14 37 5 v14)) fun v25 σ25 =>
  am_bd (g_Se_point 38 (6) v25 σ25) fun _ σ26 =>
  g_Va_readList_51 4000 (σ.2.1 13 x1.toNatClampNeg) (0) σ26
set_option maxHeartbeats 4000000 in
theorem t_Va_readList_0 {x1 : Int32} {σ σ' : am_S} {r : Unit} (h : g_Va_readList x1 σ = some (r, σ')) : am_A S_c M_Va_readList (0, [some (.ref 37), some (.int x1), none, none, none], [], σ) (am_r S_c (fun q τ => q = none ∧ τ = σ')) := by
  unfold g_Va_readList at h
  refine a_aload_n i_Va_readList_0 rfl ?_
  refine a_get (v := .ref 10) i_Va_readList_1 rfl rfl ?_
  refine a_get (v := .ref 13) i_Va_readList_4 rfl rfl ?_
  refine a_iload_n i_Va_readList_7 rfl ?_
  obtain ⟨c5, h⟩ := gd_some h
  refine a_ial (n := 200) i_Va_readList_8 (by decide) rfl rfl (inb_in c5) ?_
  refine a_istore_n i_Va_readList_9 rfl ?_
  refine a_aload_n i_Va_readList_10 rfl ?_
  refine a_aload_n i_Va_readList_11 rfl ?_
  refine a_aload_n i_Va_readList_12 rfl ?_
  refine a_get (v := .ref 10) i_Va_readList_13 rfl rfl ?_
  refine a_get (v := .ref 18) i_Va_readList_16 rfl rfl ?_
  refine a_iload_n i_Va_readList_19 rfl ?_
  obtain ⟨c13, h⟩ := gd_some h
  refine a_ial (n := 4) i_Va_readList_20 (by decide) rfl rfl (inb_in c13) ?_
  obtain ⟨v14, σ14, e14, h⟩ := am_bd_some h
  refine am_cvd (rest := [.ref 37]) [.int (σ.2.1 18 (σ.2.1 13 x1.toNatClampNeg).toNatClampNeg)] c_Va_readList_21 ⟨by decide, _, rfl⟩ rfl (Nat.le_of_ble_eq_true rfl) (t_Va_lowOf e14) ?_
  refine a_putl i_Va_readList_24 rfl ?_
  refine a_aload_n i_Va_readList_27 rfl ?_
  refine a_get (v := .ref 2) i_Va_readList_28 rfl rfl ?_
  refine a_aload_n i_Va_readList_31 rfl ?_
  refine a_get (v := .ref 38) i_Va_readList_32 rfl rfl ?_
  refine a_bipush i_Va_readList_35 ?_
  refine a_aload_n i_Va_readList_37 rfl ?_
  refine a_get (v := .ref 10) i_Va_readList_38 rfl rfl ?_
  refine a_iload_n i_Va_readList_41 rfl ?_
  refine a_iconst i_Va_readList_42 ?_
  obtain ⟨v25, σ25, e25, h⟩ := am_bd_some h
  refine am_cvd (rest := [.int 6, .ref 38, .ref 2]) [.int x1, .int 3] c_Va_readList_43 ⟨by decide, _, rfl⟩ rfl (Nat.le_of_ble_eq_true rfl) (t_En_valueOf e25) ?_
  obtain ⟨v26, σ26, e26, h⟩ := am_bd_some h
  refine am_cvd (rest := []) [.ref 38, .int 6, .long v25] c_Va_readList_46 ⟨by decide, _, rfl⟩ rfl (Nat.le_of_ble_eq_true rfl) (t_Se_point cu_38 e26) ?_
  refine a_iconst i_Va_readList_49 ?_
  refine a_istore_n i_Va_readList_50 rfl ?_
  exact am_wk (t_Va_readList_51 4000 h) ⟨Or.inr rfl, Or.inl rfl, Or.inr rfl, Or.inr rfl, Or.inl rfl, trivial⟩
theorem t_Va_readList {x1 : Int32} {σ σ' : am_S} {r : Unit} (h : g_Va_readList x1 σ = some (r, σ')) : am_Mt S_c M_Va_readList [.ref 37, .int x1] σ (fun q τ => q = none ∧ τ = σ') :=
  am_M_of ok_Va_readList (Nat.le_of_ble_eq_true rfl) (t_Va_readList_0 h)
def g_Va_read_50 (go : Int32 → am_S → Option (Int32 × am_S)) (x1 : Int32) (σ : am_S) : Option (Int32 × am_S) :=
  go (x1 + 1) σ
set_option maxHeartbeats 4000000 in
theorem t_Va_read_50 {x1 : Int32} {σ σ' : am_S} {r : Int32} {go : Int32 → am_S → Option (Int32 × am_S)} (hgo : ∀ {x1 : Int32} {σ σ' : am_S} {r : Int32}, go x1 σ = some (r, σ') → am_A S_c M_Va_read (15, [some (.ref 37), some (.int x1), none], [], σ) (am_r S_c (fun q τ => q = some (.int r) ∧ τ = σ'))) (h : g_Va_read_50 go x1 σ = some (r, σ')) : am_A S_c M_Va_read (50, [some (.ref 37), some (.int x1), none], [], σ) (am_r S_c (fun q τ => q = some (.int r) ∧ τ = σ')) := by
  unfold g_Va_read_50 at h
  refine a_iinc i_Va_read_50 rfl rfl ?_
  refine a_goto i_Va_read_53 ?_
  exact hgo h
def g_Va_read_153 (go : Int32 → am_S → Option (Int32 × am_S)) (x1 : Int32) (σ : am_S) : Option (Int32 × am_S) :=
  am_bd (g_Ra_end x1 σ) fun _ σ4 =>
  go (x1 + 1) σ4
set_option maxHeartbeats 4000000 in
theorem t_Va_read_153 {x1 : Int32} {σ σ' : am_S} {r : Int32} {go : Int32 → am_S → Option (Int32 × am_S)} (hgo : ∀ {x1 : Int32} {σ σ' : am_S} {r : Int32}, go x1 σ = some (r, σ') → am_A S_c M_Va_read (58, [some (.ref 37), some (.int x1), none], [], σ) (am_r S_c (fun q τ => q = some (.int r) ∧ τ = σ'))) (h : g_Va_read_153 go x1 σ = some (r, σ')) : am_A S_c M_Va_read (153, [some (.ref 37), some (.int x1), none], [], σ) (am_r S_c (fun q τ => q = some (.int r) ∧ τ = σ')) := by
  unfold g_Va_read_153 at h
  refine a_aload_n i_Va_read_153 rfl ?_
  refine a_get (v := .ref 32) i_Va_read_154 rfl rfl ?_
  refine a_iload_n i_Va_read_157 rfl ?_
  obtain ⟨v4, σ4, e4, h⟩ := am_bd_some h
  refine am_cvd (rest := []) [.int x1] c_Va_read_158 ⟨by decide, _, rfl⟩ rfl (Nat.le_of_ble_eq_true rfl) (t_Ra_end e4) ?_
  refine a_iinc i_Va_read_161 rfl rfl ?_
  refine a_goto i_Va_read_164 ?_
  exact hgo h
def g_Va_read_100 (go : Int32 → am_S → Option (Int32 × am_S)) (x1 : Int32) (σ : am_S) : Option (Int32 × am_S) :=
  am_bd (g_En_has x1 (3) σ) fun v5 σ5 =>
  if v5 = 0 then
    am_bd (g_En_hasPlaces x1 σ5) fun v10 σ10 =>
    if v10 = 0 then
      g_Va_read_153 go x1 σ10
    else
      am_bd (g_En_valueOf x1 (1) σ10) fun v17 σ17 =>
      am_bd (g_En_valueOf x1 (2) σ17) fun v22 σ22 =>
      am_bd (g_Va_addRange v17 v22 σ22) fun _ σ23 =>
      g_Va_read_153 go x1 σ23
  else
    am_bd (g_Va_readList x1 σ5) fun _ σ9 =>
    g_Va_read_153 go x1 σ9
set_option maxHeartbeats 4000000 in
theorem t_Va_read_100 {x1 : Int32} {σ σ' : am_S} {r : Int32} {go : Int32 → am_S → Option (Int32 × am_S)} (hgo : ∀ {x1 : Int32} {σ σ' : am_S} {r : Int32}, go x1 σ = some (r, σ') → am_A S_c M_Va_read (58, [some (.ref 37), some (.int x1), none], [], σ) (am_r S_c (fun q τ => q = some (.int r) ∧ τ = σ'))) (h : g_Va_read_100 go x1 σ = some (r, σ')) : am_A S_c M_Va_read (100, [some (.ref 37), some (.int x1), none], [], σ) (am_r S_c (fun q τ => q = some (.int r) ∧ τ = σ')) := by
  unfold g_Va_read_100 at h
  refine a_aload_n i_Va_read_100 rfl ?_
  refine a_get (v := .ref 10) i_Va_read_101 rfl rfl ?_
  refine a_iload_n i_Va_read_104 rfl ?_
  refine a_iconst i_Va_read_105 ?_
  obtain ⟨v5, σ5, e5, h⟩ := am_bd_some h
  refine am_cvd (rest := []) [.int x1, .int 3] c_Va_read_106 ⟨by decide, _, rfl⟩ rfl (Nat.le_of_ble_eq_true rfl) (t_En_has e5) ?_
  by_cases c6 : v5 = 0
  · rw [if_pos c6] at h
    refine a_ift i_Va_read_109 c6 ?_
    refine a_aload_n i_Va_read_120 rfl ?_
    refine a_get (v := .ref 10) i_Va_read_121 rfl rfl ?_
    refine a_iload_n i_Va_read_124 rfl ?_
    obtain ⟨v10, σ10, e10, h⟩ := am_bd_some h
    refine am_cvd (rest := []) [.int x1] c_Va_read_125 ⟨by decide, _, rfl⟩ rfl (Nat.le_of_ble_eq_true rfl) (t_En_hasPlaces e10) ?_
    by_cases c11 : v10 = 0
    · rw [if_pos c11] at h
      refine a_ift i_Va_read_128 c11 ?_
      exact t_Va_read_153 hgo h
    · rw [if_neg c11] at h
      refine a_iff i_Va_read_128 c11 ?_
      refine a_aload_n i_Va_read_131 rfl ?_
      refine a_aload_n i_Va_read_132 rfl ?_
      refine a_get (v := .ref 10) i_Va_read_133 rfl rfl ?_
      refine a_iload_n i_Va_read_136 rfl ?_
      refine a_iconst i_Va_read_137 ?_
      obtain ⟨v17, σ17, e17, h⟩ := am_bd_some h
      refine am_cvd (rest := [.ref 37]) [.int x1, .int 1] c_Va_read_138 ⟨by decide, _, rfl⟩ rfl (Nat.le_of_ble_eq_true rfl) (t_En_valueOf e17) ?_
      refine a_aload_n i_Va_read_141 rfl ?_
      refine a_get (v := .ref 10) i_Va_read_142 rfl rfl ?_
      refine a_iload_n i_Va_read_145 rfl ?_
      refine a_iconst i_Va_read_146 ?_
      obtain ⟨v22, σ22, e22, h⟩ := am_bd_some h
      refine am_cvd (rest := [.long v17, .ref 37]) [.int x1, .int 2] c_Va_read_147 ⟨by decide, _, rfl⟩ rfl (Nat.le_of_ble_eq_true rfl) (t_En_valueOf e22) ?_
      obtain ⟨v23, σ23, e23, h⟩ := am_bd_some h
      refine am_cvd (rest := []) [.long v17, .long v22] c_Va_read_150 ⟨by decide, _, rfl⟩ rfl (Nat.le_of_ble_eq_true rfl) (t_Va_addRange e23) ?_
      exact t_Va_read_153 hgo h
  · rw [if_neg c6] at h
    refine a_iff i_Va_read_109 c6 ?_
    refine a_aload_n i_Va_read_112 rfl ?_
    refine a_iload_n i_Va_read_113 rfl ?_
    obtain ⟨v9, σ9, e9, h⟩ := am_bd_some h
    refine am_cvd (rest := []) [.int x1] c_Va_read_114 ⟨by decide, _, rfl⟩ rfl (Nat.le_of_ble_eq_true rfl) (t_Va_readList e9) ?_
    refine a_goto i_Va_read_117 ?_
    exact t_Va_read_153 hgo h
def g_Va_read_179 (y0 : Int32) (σ : am_S) : Option (Int32 × am_S) :=
  am_gd (z01 y0) <|
  some (y0, σ)
set_option maxHeartbeats 4000000 in
theorem t_Va_read_179 {y0 : Int32} {σ σ' : am_S} {r : Int32} (h : g_Va_read_179 y0 σ = some (r, σ')) : am_A S_c M_Va_read (179, [none, none, none], [.int y0], σ) (am_r S_c (fun q τ => q = some (.int r) ∧ τ = σ')) := by
  unfold g_Va_read_179 at h
  obtain ⟨c1, h⟩ := gd_some h
  exact am_ret_z ok_Va_read rfl rfl (z01_or c1) (am_lf_i h)
def g_Va_read_167 (σ : am_S) : Option (Int32 × am_S) :=
  if (σ.1.1 37 6) = 0 then
    g_Va_read_179 (1) σ
  else
    g_Va_read_179 (0) σ
set_option maxHeartbeats 4000000 in
theorem t_Va_read_167 {σ σ' : am_S} {r : Int32} (h : g_Va_read_167 σ = some (r, σ')) : am_A S_c M_Va_read (167, [some (.ref 37), none, none], [], σ) (am_r S_c (fun q τ => q = some (.int r) ∧ τ = σ')) := by
  unfold g_Va_read_167 at h
  refine a_aload_n i_Va_read_167 rfl ?_
  refine a_get (v := .int (σ.1.1 37 6)) i_Va_read_168 rfl rfl ?_
  by_cases c3 : (σ.1.1 37 6) = 0
  · rw [if_pos c3] at h
    refine a_iff i_Va_read_171 c3 ?_
    refine a_iconst i_Va_read_174 ?_
    refine a_goto i_Va_read_175 ?_
    exact am_wk (t_Va_read_179 h) ⟨Or.inl rfl, Or.inl rfl, Or.inl rfl, trivial⟩
  · rw [if_neg c3] at h
    refine a_ift i_Va_read_171 c3 ?_
    refine a_iconst i_Va_read_178 ?_
    exact am_wk (t_Va_read_179 h) ⟨Or.inl rfl, Or.inl rfl, Or.inl rfl, trivial⟩
def g_Va_read_58 : Nat → Int32 → am_S → Option (Int32 × am_S)
  | 0, _, _ => none
  | n + 1, x1, σ =>
  if x1 < (σ.1.1 10 10) then
    if (σ.1.1 37 6) = 0 then
      am_bd (g_Ra_begin x1 σ) fun _ σ12 =>
      am_bd (g_En_isLookedAt x1 σ12) fun v16 σ16 =>
      if v16 = 0 then
        g_Va_read_100 (g_Va_read_58 n) x1 σ16
      else
        am_bd (g_Va_resolve x1 σ16) fun _ σ20 =>
        g_Va_read_100 (g_Va_read_58 n) x1 σ20
    else
      g_Va_read_167 σ
  else
    g_Va_read_167 σ
set_option maxHeartbeats 4000000 in
theorem t_Va_read_58 : ∀ (n : Nat) {x1 : Int32} {σ σ' : am_S} {r : Int32} (h : g_Va_read_58 n x1 σ = some (r, σ')), am_A S_c M_Va_read (58, [some (.ref 37), some (.int x1), none], [], σ) (am_r S_c (fun q τ => q = some (.int r) ∧ τ = σ')) := by
  intro n
  induction n with
  | zero =>
    intro x1 σ σ' r h
    cases h
  | succ n ih =>
  intro x1 σ σ' r h
  unfold g_Va_read_58 at h
  refine a_iload_n i_Va_read_58 rfl ?_
  refine a_aload_n i_Va_read_59 rfl ?_
  refine a_get (v := .ref 10) i_Va_read_60 rfl rfl ?_
  refine a_get (v := .int (σ.1.1 10 10)) i_Va_read_63 rfl rfl ?_
  by_cases c5 : x1 < (σ.1.1 10 10)
  · rw [if_pos c5] at h
    refine a_icf i_Va_read_66 (Int32.not_le.mpr c5) ?_
    refine a_aload_n i_Va_read_69 rfl ?_
    refine a_get (v := .int (σ.1.1 37 6)) i_Va_read_70 rfl rfl ?_
    by_cases c8 : (σ.1.1 37 6) = 0
    · rw [if_pos c8] at h
      refine a_iff i_Va_read_73 c8 ?_
      refine a_aload_n i_Va_read_76 rfl ?_
      refine a_get (v := .ref 32) i_Va_read_77 rfl rfl ?_
      refine a_iload_n i_Va_read_80 rfl ?_
      obtain ⟨v12, σ12, e12, h⟩ := am_bd_some h
      refine am_cvd (rest := []) [.int x1] c_Va_read_81 ⟨by decide, _, rfl⟩ rfl (Nat.le_of_ble_eq_true rfl) (t_Ra_begin e12) ?_
      refine a_aload_n i_Va_read_84 rfl ?_
      refine a_get (v := .ref 10) i_Va_read_85 rfl rfl ?_
      refine a_iload_n i_Va_read_88 rfl ?_
      obtain ⟨v16, σ16, e16, h⟩ := am_bd_some h
      refine am_cvd (rest := []) [.int x1] c_Va_read_89 ⟨by decide, _, rfl⟩ rfl (Nat.le_of_ble_eq_true rfl) (t_En_isLookedAt e16) ?_
      by_cases c17 : v16 = 0
      · rw [if_pos c17] at h
        refine a_ift i_Va_read_92 c17 ?_
        exact t_Va_read_100 (fun h => ih h) h
      · rw [if_neg c17] at h
        refine a_iff i_Va_read_92 c17 ?_
        refine a_aload_n i_Va_read_95 rfl ?_
        refine a_iload_n i_Va_read_96 rfl ?_
        obtain ⟨v20, σ20, e20, h⟩ := am_bd_some h
        refine am_cvd (rest := []) [.int x1] c_Va_read_97 ⟨by decide, _, rfl⟩ rfl (Nat.le_of_ble_eq_true rfl) (t_Va_resolve e20) ?_
        exact t_Va_read_100 (fun h => ih h) h
    · rw [if_neg c8] at h
      refine a_ift i_Va_read_73 c8 ?_
      exact am_wk (t_Va_read_167 h) ⟨Or.inr rfl, Or.inl rfl, Or.inl rfl, trivial⟩
  · rw [if_neg c5] at h
    refine a_ict i_Va_read_66 (Int32.not_lt.mp c5) ?_
    exact am_wk (t_Va_read_167 h) ⟨Or.inr rfl, Or.inl rfl, Or.inl rfl, trivial⟩
def g_Va_read_15 : Nat → Int32 → am_S → Option (Int32 × am_S)
  | 0, _, _ => none
  | n + 1, x1, σ =>
  if x1 < ((σ.1.1 10 11) * 4) then
    am_gd (inb x1 16) <|
    if (σ.2.1 19 x1.toNatClampNeg) = 0 then
      g_Va_read_50 (g_Va_read_15 n) x1 σ
    else
      if (σ.2.1 19 x1.toNatClampNeg) = 23 then
        g_Va_read_50 (g_Va_read_15 n) x1 σ
      else
        some (0, σ)
  else
    g_Va_read_58 4000 (0) σ
set_option maxHeartbeats 4000000 in
theorem t_Va_read_15 : ∀ (n : Nat) {x1 : Int32} {σ σ' : am_S} {r : Int32} (h : g_Va_read_15 n x1 σ = some (r, σ')), am_A S_c M_Va_read (15, [some (.ref 37), some (.int x1), none], [], σ) (am_r S_c (fun q τ => q = some (.int r) ∧ τ = σ')) := by
  intro n
  induction n with
  | zero =>
    intro x1 σ σ' r h
    cases h
  | succ n ih =>
  intro x1 σ σ' r h
  unfold g_Va_read_15 at h
  refine a_iload_n i_Va_read_15 rfl ?_
  refine a_aload_n i_Va_read_16 rfl ?_
  refine a_get (v := .ref 10) i_Va_read_17 rfl rfl ?_
  refine a_get (v := .int (σ.1.1 10 11)) i_Va_read_20 rfl rfl ?_
  refine a_iconst i_Va_read_23 ?_
  refine a_imul i_Va_read_24 ?_
  by_cases c7 : x1 < ((σ.1.1 10 11) * 4)
  · rw [if_pos c7] at h
    refine a_icf i_Va_read_25 (Int32.not_le.mpr c7) ?_
    refine a_aload_n i_Va_read_28 rfl ?_
    refine a_get (v := .ref 10) i_Va_read_29 rfl rfl ?_
    refine a_get (v := .ref 19) i_Va_read_32 rfl rfl ?_
    refine a_iload_n i_Va_read_35 rfl ?_
    obtain ⟨c12, h⟩ := gd_some h
    refine a_ial (n := 16) i_Va_read_36 (by decide) rfl rfl (inb_in c12) ?_
    refine a_istore_n i_Va_read_37 rfl ?_
    refine a_iload_n i_Va_read_38 rfl ?_
    by_cases c15 : (σ.2.1 19 x1.toNatClampNeg) = 0
    · rw [if_pos c15] at h
      refine a_ift i_Va_read_39 c15 ?_
      exact am_wk (t_Va_read_50 (fun h => ih h) h) ⟨Or.inr rfl, Or.inr rfl, Or.inl rfl, trivial⟩
    · rw [if_neg c15] at h
      refine a_iff i_Va_read_39 c15 ?_
      refine a_iload_n i_Va_read_42 rfl ?_
      refine a_bipush i_Va_read_43 ?_
      by_cases c18 : (σ.2.1 19 x1.toNatClampNeg) = 23
      · rw [if_pos c18] at h
        refine a_ict i_Va_read_45 c18 ?_
        exact am_wk (t_Va_read_50 (fun h => ih h) h) ⟨Or.inr rfl, Or.inr rfl, Or.inl rfl, trivial⟩
      · rw [if_neg c18] at h
        refine a_icf i_Va_read_45 c18 ?_
        refine a_iconst i_Va_read_48 ?_
        exact am_ret_z ok_Va_read rfl rfl (Or.inl rfl) (am_lf_i h)
  · rw [if_neg c7] at h
    refine a_ict i_Va_read_25 (Int32.not_lt.mp c7) ?_
    refine a_iconst i_Va_read_56 ?_
    refine a_istore_n i_Va_read_57 rfl ?_
    exact t_Va_read_58 4000 h
def g_Va_read (σ : am_S) : Option (Int32 × am_S) :=
  g_Va_read_15 4000 (0) (am_fi (am_fi σ 37 6 0) 32 4 0)
set_option maxHeartbeats 4000000 in
theorem t_Va_read_0 {σ σ' : am_S} {r : Int32} (h : g_Va_read σ = some (r, σ')) : am_A S_c M_Va_read (0, [some (.ref 37), none, none], [], σ) (am_r S_c (fun q τ => q = some (.int r) ∧ τ = σ')) := by
  unfold g_Va_read at h
  refine a_aload_n i_Va_read_0 rfl ?_
  refine a_iconst i_Va_read_1 ?_
  refine a_puti i_Va_read_2 rfl (Or.inl rfl) ?_
  refine a_aload_n i_Va_read_5 rfl ?_
  refine a_get (v := .ref 32) i_Va_read_6 rfl rfl ?_
  refine a_iconst i_Va_read_9 ?_
  refine a_puti i_Va_read_10 rfl trivial ?_
  refine a_iconst i_Va_read_13 ?_
  refine a_istore_n i_Va_read_14 rfl ?_
  exact t_Va_read_15 4000 h
theorem t_Va_read {σ σ' : am_S} {r : Int32} (h : g_Va_read σ = some (r, σ')) : am_Mt S_c M_Va_read [.ref 37] σ (fun q τ => q = some (.int r) ∧ τ = σ') :=
  am_M_of ok_Va_read (Nat.le_of_ble_eq_true rfl) (t_Va_read_0 h)
def g_Ro_forgetAll (σ : am_S) : Option (Unit × am_S) :=
  some ((), am_fi σ 40 8 0)
set_option maxHeartbeats 4000000 in
theorem t_Ro_forgetAll_0 {σ σ' : am_S} {r : Unit} (h : g_Ro_forgetAll σ = some (r, σ')) : am_A S_c M_Ro_forgetAll (0, [some (.ref 40)], [], σ) (am_r S_c (fun q τ => q = none ∧ τ = σ')) := by
  unfold g_Ro_forgetAll at h
  refine a_aload_n i_Ro_forgetAll_0 rfl ?_
  refine a_iconst i_Ro_forgetAll_1 ?_
  refine a_puti i_Ro_forgetAll_2 rfl trivial ?_
  exact am_ret_v ok_Ro_forgetAll rfl rfl (am_lf_v h)
theorem t_Ro_forgetAll {σ σ' : am_S} {r : Unit} (h : g_Ro_forgetAll σ = some (r, σ')) : am_Mt S_c M_Ro_forgetAll [.ref 40] σ (fun q τ => q = none ∧ τ = σ') :=
  am_M_of ok_Ro_forgetAll (Nat.le_of_ble_eq_true rfl) (t_Ro_forgetAll_0 h)
def g_Ro_begin (x1 : Int32) (σ : am_S) : Option (Unit × am_S) :=
  am_gd (inb x1 4) <|
  am_gd (inb x1 4) <|
  some ((), am_ai (am_ai σ 45 x1.toNatClampNeg (σ.1.1 40 8)) 47 x1.toNatClampNeg 0)
set_option maxHeartbeats 4000000 in
theorem t_Ro_begin_0 {x1 : Int32} {σ σ' : am_S} {r : Unit} (h : g_Ro_begin x1 σ = some (r, σ')) : am_A S_c M_Ro_begin (0, [some (.ref 40), some (.int x1)], [], σ) (am_r S_c (fun q τ => q = none ∧ τ = σ')) := by
  unfold g_Ro_begin at h
  refine a_aload_n i_Ro_begin_0 rfl ?_
  refine a_get (v := .ref 45) i_Ro_begin_1 rfl rfl ?_
  refine a_iload_n i_Ro_begin_4 rfl ?_
  refine a_aload_n i_Ro_begin_5 rfl ?_
  refine a_get (v := .int (σ.1.1 40 8)) i_Ro_begin_6 rfl rfl ?_
  obtain ⟨c6, h⟩ := gd_some h
  refine a_ias (n := 4) i_Ro_begin_9 rfl rfl (inb_in c6) ?_
  refine a_aload_n i_Ro_begin_10 rfl ?_
  refine a_get (v := .ref 47) i_Ro_begin_11 rfl rfl ?_
  refine a_iload_n i_Ro_begin_14 rfl ?_
  refine a_iconst i_Ro_begin_15 ?_
  obtain ⟨c11, h⟩ := gd_some h
  refine a_ias (n := 4) i_Ro_begin_16 rfl rfl (inb_in c11) ?_
  exact am_ret_v ok_Ro_begin rfl rfl (am_lf_v h)
theorem t_Ro_begin {x1 : Int32} {σ σ' : am_S} {r : Unit} (h : g_Ro_begin x1 σ = some (r, σ')) : am_Mt S_c M_Ro_begin [.ref 40, .int x1] σ (fun q τ => q = none ∧ τ = σ') :=
  am_M_of ok_Ro_begin (Nat.le_of_ble_eq_true rfl) (t_Ro_begin_0 h)
def g_Ro_end (x1 : Int32) (σ : am_S) : Option (Unit × am_S) :=
  am_gd (inb x1 4) <|
  some ((), am_ai σ 46 x1.toNatClampNeg (σ.1.1 40 8))
set_option maxHeartbeats 4000000 in
theorem t_Ro_end_0 {x1 : Int32} {σ σ' : am_S} {r : Unit} (h : g_Ro_end x1 σ = some (r, σ')) : am_A S_c M_Ro_end (0, [some (.ref 40), some (.int x1)], [], σ) (am_r S_c (fun q τ => q = none ∧ τ = σ')) := by
  unfold g_Ro_end at h
  refine a_aload_n i_Ro_end_0 rfl ?_
  refine a_get (v := .ref 46) i_Ro_end_1 rfl rfl ?_
  refine a_iload_n i_Ro_end_4 rfl ?_
  refine a_aload_n i_Ro_end_5 rfl ?_
  refine a_get (v := .int (σ.1.1 40 8)) i_Ro_end_6 rfl rfl ?_
  obtain ⟨c6, h⟩ := gd_some h
  refine a_ias (n := 4) i_Ro_end_9 rfl rfl (inb_in c6) ?_
  exact am_ret_v ok_Ro_end rfl rfl (am_lf_v h)
theorem t_Ro_end {x1 : Int32} {σ σ' : am_S} {r : Unit} (h : g_Ro_end x1 σ = some (r, σ')) : am_Mt S_c M_Ro_end [.ref 40, .int x1] σ (fun q τ => q = none ∧ τ = σ') :=
  am_M_of ok_Ro_end (Nat.le_of_ble_eq_true rfl) (t_Ro_end_0 h)
