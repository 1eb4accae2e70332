def g_Mo_line_59 (y0 : Int32) (σ : am_S) : Option (Int32 × am_S) :=
  some (y0, σ)
set_option maxHeartbeats 4000000 in
theorem t_Mo_line_59 {y0 : Int32} {σ σ' : am_S} {r : Int32} (h : g_Mo_line_59 y0 σ = some (r, σ')) : am_A S_m M_Mo_line (59, [none, none, none], [.int y0], σ) (am_r S_m (fun q τ => q = some (.int r) ∧ τ = σ')) := by
  unfold g_Mo_line_59 at h
  exact am_ret_i ok_Mo_line rfl rfl (am_lf_i h)
def g_Mo_line_94 (y0 : Int32) (σ : am_S) : Option (Int32 × am_S) :=
  some (y0, σ)
set_option maxHeartbeats 4000000 in
theorem t_Mo_line_94 {y0 : Int32} {σ σ' : am_S} {r : Int32} (h : g_Mo_line_94 y0 σ = some (r, σ')) : am_A S_m M_Mo_line (94, [none, none, none], [.int y0], σ) (am_r S_m (fun q τ => q = some (.int r) ∧ τ = σ')) := by
  unfold g_Mo_line_94 at h
  exact am_ret_i ok_Mo_line rfl rfl (am_lf_i h)
def g_Mo_line (x1 : Int32) (σ : am_S) : Option (Int32 × am_S) :=
  am_bd (g_Mo_isFrame x1 (am_fi σ 0 1 0)) fun v6 σ6 =>
  if v6 = 0 then
    some ((-1), σ6)
  else
    if (σ6.1.1 0 55) = 0 then
      some (0, σ6)
    else
      if x1 = 0 then
        am_gd (inb 0 200) <|
        am_gd (inb (σ6.2.1 33 (0 : Int32).toNatClampNeg) 200) <|
        am_bd (g_Mo_rowOf (σ6.2.1 19 (σ6.2.1 33 (0 : Int32).toNatClampNeg).toNatClampNeg) σ6) fun v21 σ21 =>
        if v21 = (-1) then
          g_Mo_line_59 (0) σ21
        else
          am_gd (inb v21 400) <|
          g_Mo_line_59 (σ21.2.1 27 v21.toNatClampNeg) σ21
      else
        am_gd (inb ((σ6.1.1 0 55) - x1) 200) <|
        am_bd (g_Mo_has (σ6.2.1 33 ((σ6.1.1 0 55) - x1).toNatClampNeg) (6) σ6) fun v24 σ24 =>
        if v24 = 0 then
          g_Mo_line_94 (0) σ24
        else
          am_bd (g_Mo_valueAt (σ6.2.1 33 ((σ6.1.1 0 55) - x1).toNatClampNeg) (6) σ24) fun v29 σ29 =>
          g_Mo_line_94 v29.toInt32 σ29
set_option maxHeartbeats 4000000 in
theorem t_Mo_line_0 {x1 : Int32} {σ σ' : am_S} {r : Int32} (h : g_Mo_line x1 σ = some (r, σ')) : am_A S_m M_Mo_line (0, [some (.ref 0), some (.int x1), none], [], σ) (am_r S_m (fun q τ => q = some (.int r) ∧ τ = σ')) := by
  unfold g_Mo_line at h
  refine a_aload_n i_Mo_line_0 rfl ?_
  refine a_iconst i_Mo_line_1 ?_
  refine a_puti i_Mo_line_2 rfl trivial ?_
  refine a_aload_n i_Mo_line_5 rfl ?_
  refine a_iload_n i_Mo_line_6 rfl ?_
  obtain ⟨v6, σ6, e6, h⟩ := am_bd_some h
  refine am_cvd (rest := []) [.int x1] c_Mo_line_7 ⟨by decide, _, rfl⟩ rfl (Nat.le_of_ble_eq_true rfl) (t_Mo_isFrame e6) ?_
  by_cases c7 : v6 = 0
  · rw [if_pos c7] at h
    refine a_iff i_Mo_line_10 c7 ?_
    refine a_iconst i_Mo_line_13 ?_
    exact am_ret_i ok_Mo_line rfl rfl (am_lf_i h)
  · rw [if_neg c7] at h
    refine a_ift i_Mo_line_10 c7 ?_
    refine a_aload_n i_Mo_line_15 rfl ?_
    refine a_get (v := .int (σ6.1.1 0 55)) i_Mo_line_16 rfl rfl ?_
    by_cases c10 : (σ6.1.1 0 55) = 0
    · rw [if_pos c10] at h
      refine a_iff i_Mo_line_19 c10 ?_
      refine a_iconst i_Mo_line_22 ?_
      exact am_ret_i ok_Mo_line rfl rfl (am_lf_i h)
    · rw [if_neg c10] at h
      refine a_ift i_Mo_line_19 c10 ?_
      refine a_iload_n i_Mo_line_24 rfl ?_
      by_cases c12 : x1 = 0
      · rw [if_pos c12] at h
        refine a_iff i_Mo_line_25 c12 ?_
        refine a_aload_n i_Mo_line_28 rfl ?_
        refine a_aload_n i_Mo_line_29 rfl ?_
        refine a_get (v := .ref 19) i_Mo_line_30 rfl rfl ?_
        refine a_aload_n i_Mo_line_33 rfl ?_
        refine a_get (v := .ref 33) i_Mo_line_34 rfl rfl ?_
        refine a_iconst i_Mo_line_37 ?_
        obtain ⟨c19, h⟩ := gd_some h
        refine a_ial (n := 200) i_Mo_line_38 (by decide) rfl rfl (inb_in c19) ?_
        obtain ⟨c20, h⟩ := gd_some h
        refine a_ial (n := 200) i_Mo_line_39 (by decide) rfl rfl (inb_in c20) ?_
        obtain ⟨v21, σ21, e21, h⟩ := am_bd_some h
        refine am_cvd (rest := []) [.int (σ6.2.1 19 (σ6.2.1 33 (0 : Int32).toNatClampNeg).toNatClampNeg)] c_Mo_line_40 ⟨by decide, _, rfl⟩ rfl (Nat.le_of_ble_eq_true rfl) (t_Mo_rowOf e21) ?_
        refine a_istore_n i_Mo_line_43 rfl ?_
        refine a_iload_n i_Mo_line_44 rfl ?_
        refine a_iconst i_Mo_line_45 ?_
        by_cases c25 : v21 = (-1)
        · rw [if_pos c25] at h
          refine a_icf i_Mo_line_46 c25 ?_
          refine a_iconst i_Mo_line_49 ?_
          refine a_goto i_Mo_line_50 ?_
          exact am_wk (t_Mo_line_59 h) ⟨Or.inl rfl, Or.inl rfl, Or.inl rfl, trivial⟩
        · rw [if_neg c25] at h
          refine a_ict i_Mo_line_46 c25 ?_
          refine a_aload_n i_Mo_line_53 rfl ?_
          refine a_get (v := .ref 27) i_Mo_line_54 rfl rfl ?_
          refine a_iload_n i_Mo_line_57 rfl ?_
          obtain ⟨c29, h⟩ := gd_some h
          refine a_ial (n := 400) i_Mo_line_58 (by decide) rfl rfl (inb_in c29) ?_
          exact am_wk (t_Mo_line_59 h) ⟨Or.inl rfl, Or.inl rfl, Or.inl rfl, trivial⟩
      · rw [if_neg c12] at h
        refine a_ift i_Mo_line_25 c12 ?_
        refine a_aload_n i_Mo_line_60 rfl ?_
        refine a_get (v := .ref 33) i_Mo_line_61 rfl rfl ?_
        refine a_aload_n i_Mo_line_64 rfl ?_
        refine a_get (v := .int (σ6.1.1 0 55)) i_Mo_line_65 rfl rfl ?_
        refine a_iload_n i_Mo_line_68 rfl ?_
        refine a_isub i_Mo_line_69 ?_
        obtain ⟨c19, h⟩ := gd_some h
        refine a_ial (n := 200) i_Mo_line_70 (by decide) rfl rfl (inb_in c19) ?_
        refine a_istore_n i_Mo_line_71 rfl ?_
        refine a_aload_n i_Mo_line_72 rfl ?_
        refine a_iload_n i_Mo_line_73 rfl ?_
        refine a_bipush i_Mo_line_74 ?_
        obtain ⟨v24, σ24, e24, h⟩ := am_bd_some h
        refine am_cvd (rest := []) [.int (σ6.2.1 33 ((σ6.1.1 0 55) - x1).toNatClampNeg), .int 6] c_Mo_line_76 ⟨by decide, _, rfl⟩ rfl (Nat.le_of_ble_eq_true rfl) (t_Mo_has e24) ?_
        by_cases c25 : v24 = 0
        · rw [if_pos c25] at h
          refine a_ift i_Mo_line_79 c25 ?_
          refine a_iconst i_Mo_line_93 ?_
          exact am_wk (t_Mo_line_94 h) ⟨Or.inl rfl, Or.inl rfl, Or.inl rfl, trivial⟩
        · rw [if_neg c25] at h
          refine a_iff i_Mo_line_79 c25 ?_
          refine a_aload_n i_Mo_line_82 rfl ?_
          refine a_iload_n i_Mo_line_83 rfl ?_
          refine a_bipush i_Mo_line_84 ?_
          obtain ⟨v29, σ29, e29, h⟩ := am_bd_some h
          refine am_cvd (rest := []) [.int (σ6.2.1 33 ((σ6.1.1 0 55) - x1).toNatClampNeg), .int 6] c_Mo_line_86 ⟨by decide, _, rfl⟩ rfl (Nat.le_of_ble_eq_true rfl) (t_Mo_valueAt e29) ?_
          refine a_l2i i_Mo_line_89 ?_
          refine a_goto i_Mo_line_90 ?_
          exact am_wk (t_Mo_line_94 h) ⟨Or.inl rfl, Or.inl rfl, Or.inl rfl, trivial⟩
theorem t_Mo_line {x1 : Int32} {σ σ' : am_S} {r : Int32} (h : g_Mo_line x1 σ = some (r, σ')) : am_Mt S_m M_Mo_line [.ref 0, .int x1] σ (fun q τ => q = some (.int r) ∧ τ = σ') :=
  am_M_of ok_Mo_line (Nat.le_of_ble_eq_true rfl) (t_Mo_line_0 h)
