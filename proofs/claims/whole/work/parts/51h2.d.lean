def g_Mo_thrown (σ : am_S) : Option (Int32 × am_S) :=
  some (σ.1.1 0 1, σ)
set_option maxHeartbeats 4000000 in
theorem t_Mo_thrown_0 {σ σ' : am_S} {r : Int32} (h : g_Mo_thrown σ = some (r, σ')) : am_A S_m M_Mo_thrown (0, [some (.ref 0)], [], σ) (am_r S_m (fun q τ => q = some (.int r) ∧ τ = σ')) := by
  unfold g_Mo_thrown at h
  refine a_aload_n i_Mo_thrown_0 rfl ?_
  refine a_get (v := .int (σ.1.1 0 1)) i_Mo_thrown_1 rfl rfl ?_
  exact am_ret_i ok_Mo_thrown rfl rfl (am_lf_i h)
theorem t_Mo_thrown {σ σ' : am_S} {r : Int32} (h : g_Mo_thrown σ = some (r, σ')) : am_Mt S_m M_Mo_thrown [.ref 0] σ (fun q τ => q = some (.int r) ∧ τ = σ') :=
  am_M_of ok_Mo_thrown (Nat.le_of_ble_eq_true rfl) (t_Mo_thrown_0 h)
def g_Mo_forget (σ : am_S) : Option (Unit × am_S) :=
  some ((), am_fi (am_fi (am_fi σ 0 5 0) 0 56 0) 0 55 0)
set_option maxHeartbeats 4000000 in
theorem t_Mo_forget_0 {σ σ' : am_S} {r : Unit} (h : g_Mo_forget σ = some (r, σ')) : am_A S_m M_Mo_forget (0, [some (.ref 0)], [], σ) (am_r S_m (fun q τ => q = none ∧ τ = σ')) := by
  unfold g_Mo_forget at h
  refine a_aload_n i_Mo_forget_0 rfl ?_
  refine a_iconst i_Mo_forget_1 ?_
  refine a_puti i_Mo_forget_2 rfl (Or.inl rfl) ?_
  refine a_aload_n i_Mo_forget_5 rfl ?_
  refine a_iconst i_Mo_forget_6 ?_
  refine a_puti i_Mo_forget_7 rfl trivial ?_
  refine a_aload_n i_Mo_forget_10 rfl ?_
  refine a_iconst i_Mo_forget_11 ?_
  refine a_puti i_Mo_forget_12 rfl trivial ?_
  exact am_ret_v ok_Mo_forget rfl rfl (am_lf_v h)
theorem t_Mo_forget {σ σ' : am_S} {r : Unit} (h : g_Mo_forget σ = some (r, σ')) : am_Mt S_m M_Mo_forget [.ref 0] σ (fun q τ => q = none ∧ τ = σ') :=
  am_M_of ok_Mo_forget (Nat.le_of_ble_eq_true rfl) (t_Mo_forget_0 h)
def g_Mo_load_28 (σ : am_S) : Option (Int32 × am_S) :=
  some (0, σ)
set_option maxHeartbeats 4000000 in
theorem t_Mo_load_28 {σ σ' : am_S} {r : Int32} (h : g_Mo_load_28 σ = some (r, σ')) : am_A S_m M_Mo_load (28, [none, none, none, none, none], [], σ) (am_r S_m (fun q τ => q = some (.int r) ∧ τ = σ')) := by
  unfold g_Mo_load_28 at h
  refine a_iconst i_Mo_load_28 ?_
  exact am_ret_z ok_Mo_load rfl rfl (Or.inl rfl) (am_lf_i h)
def g_Mo_load_33 : Nat → Int32 → Int64 → Int32 → am_S → Option (Int32 × am_S)
  | 0, _, _, _, _ => none
  | n + 1, x1, x2, x4, σ =>
  if x4 < x1 then
    am_gd (inb (σ.1.1 0 3) 3000) <|
    g_Mo_load_33 n x1 x2 (x4 + 1) (am_fi (am_ai σ 2 (σ.1.1 0 3).toNatClampNeg (vp_nar .byte (((x2 >>> ((8 * x4).toInt64 &&& 63)).toInt32).toInt8.toInt32))) 0 3 ((σ.1.1 0 3) + 1))
  else
    am_bd (g_Mo_forget σ) fun _ σ5 =>
    some (1, σ5)
set_option maxHeartbeats 4000000 in
theorem t_Mo_load_33 : ∀ (n : Nat) {x1 : Int32} {x2 : Int64} {x4 : Int32} {σ σ' : am_S} {r : Int32} (h : g_Mo_load_33 n x1 x2 x4 σ = some (r, σ')), am_A S_m M_Mo_load (33, [some (.ref 0), some (.int x1), some (.long x2), none, some (.int x4)], [], σ) (am_r S_m (fun q τ => q = some (.int r) ∧ τ = σ')) := by
  intro n
  induction n with
  | zero =>
    intro x1 x2 x4 σ σ' r h
    cases h
  | succ n ih =>
  intro x1 x2 x4 σ σ' r h
  unfold g_Mo_load_33 at h
  refine a_iload i_Mo_load_33 rfl ?_
  refine a_iload_n i_Mo_load_35 rfl ?_
  by_cases c3 : x4 < x1
  · rw [if_pos c3] at h
    refine a_icf i_Mo_load_36 (Int32.not_le.mpr c3) ?_
    refine a_aload_n i_Mo_load_39 rfl ?_
    refine a_get (v := .ref 2) i_Mo_load_40 rfl rfl ?_
    refine a_aload_n i_Mo_load_43 rfl ?_
    refine a_get (v := .int (σ.1.1 0 3)) i_Mo_load_44 rfl rfl ?_
    refine a_lload_n i_Mo_load_47 rfl ?_
    refine a_bipush i_Mo_load_48 ?_
    refine a_iload i_Mo_load_50 rfl ?_
    refine a_imul i_Mo_load_52 ?_
    refine a_lshr i_Mo_load_53 ?_
    refine a_l2i i_Mo_load_54 ?_
    refine a_i2b i_Mo_load_55 ?_
    obtain ⟨c15, h⟩ := gd_some h
    refine a_bas (n := 3000) i_Mo_load_56 rfl rfl (inb_in c15) ?_
    refine a_aload_n i_Mo_load_57 rfl ?_
    refine a_dup_a i_Mo_load_58 ?_
    refine a_get (v := .int (σ.1.1 0 3)) i_Mo_load_59 rfl rfl ?_
    refine a_iconst i_Mo_load_62 ?_
    refine a_iadd i_Mo_load_63 ?_
    refine a_puti i_Mo_load_64 rfl trivial ?_
    refine a_iinc i_Mo_load_67 rfl rfl ?_
    refine a_goto i_Mo_load_70 ?_
    exact ih h
  · rw [if_neg c3] at h
    refine a_ict i_Mo_load_36 (Int32.not_lt.mp c3) ?_
    refine a_aload_n i_Mo_load_73 rfl ?_
    obtain ⟨v5, σ5, e5, h⟩ := am_bd_some h
    refine am_cvd (rest := []) [] c_Mo_load_74 ⟨by decide, _, rfl⟩ rfl (Nat.le_of_ble_eq_true rfl) (t_Mo_forget e5) ?_
    refine a_iconst i_Mo_load_77 ?_
    exact am_ret_z ok_Mo_load rfl rfl (Or.inr rfl) (am_lf_i h)
def g_Mo_load (x1 : Int32) (x2 : Int64) (σ : am_S) : Option (Int32 × am_S) :=
  if x1 < 1 then
    g_Mo_load_28 (am_fi σ 0 1 0)
  else
    if 8 < x1 then
      g_Mo_load_28 (am_fi σ 0 1 0)
    else
      if 3000 < ((σ.1.1 0 3) + x1) then
        g_Mo_load_28 (am_fi σ 0 1 0)
      else
        g_Mo_load_33 4000 x1 x2 (0) (am_fi σ 0 1 0)
set_option maxHeartbeats 4000000 in
theorem t_Mo_load_0 {x1 : Int32} {x2 : Int64} {σ σ' : am_S} {r : Int32} (h : g_Mo_load x1 x2 σ = some (r, σ')) : am_A S_m M_Mo_load (0, [some (.ref 0), some (.int x1), some (.long x2), none, none], [], σ) (am_r S_m (fun q τ => q = some (.int r) ∧ τ = σ')) := by
  unfold g_Mo_load at h
  refine a_aload_n i_Mo_load_0 rfl ?_
  refine a_iconst i_Mo_load_1 ?_
  refine a_puti i_Mo_load_2 rfl trivial ?_
  refine a_iload_n i_Mo_load_5 rfl ?_
  refine a_iconst i_Mo_load_6 ?_
  by_cases c6 : x1 < 1
  · rw [if_pos c6] at h
    refine a_ict i_Mo_load_7 c6 ?_
    exact am_wk (t_Mo_load_28 h) ⟨Or.inl rfl, Or.inl rfl, Or.inl rfl, Or.inl rfl, Or.inl rfl, trivial⟩
  · rw [if_neg c6] at h
    refine a_icf i_Mo_load_7 c6 ?_
    refine a_iload_n i_Mo_load_10 rfl ?_
    refine a_bipush i_Mo_load_11 ?_
    by_cases c9 : 8 < x1
    · rw [if_pos c9] at h
      refine a_ict i_Mo_load_13 c9 ?_
      exact am_wk (t_Mo_load_28 h) ⟨Or.inl rfl, Or.inl rfl, Or.inl rfl, Or.inl rfl, Or.inl rfl, trivial⟩
    · rw [if_neg c9] at h
      refine a_icf i_Mo_load_13 c9 ?_
      refine a_aload_n i_Mo_load_16 rfl ?_
      refine a_get (v := .int (σ.1.1 0 3)) i_Mo_load_17 rfl rfl ?_
      refine a_iload_n i_Mo_load_20 rfl ?_
      refine a_iadd i_Mo_load_21 ?_
      refine a_sipush i_Mo_load_22 ?_
      by_cases c15 : 3000 < ((σ.1.1 0 3) + x1)
      · rw [if_pos c15] at h
        refine a_icf i_Mo_load_25 (Int32.not_le.mpr c15) ?_
        exact am_wk (t_Mo_load_28 h) ⟨Or.inl rfl, Or.inl rfl, Or.inl rfl, Or.inl rfl, Or.inl rfl, trivial⟩
      · rw [if_neg c15] at h
        refine a_ict i_Mo_load_25 (Int32.not_lt.mp c15) ?_
        refine a_iconst i_Mo_load_30 ?_
        refine a_istore i_Mo_load_31 rfl ?_
        exact t_Mo_load_33 4000 h
theorem t_Mo_load {x1 : Int32} {x2 : Int64} {σ σ' : am_S} {r : Int32} (h : g_Mo_load x1 x2 σ = some (r, σ')) : am_Mt S_m M_Mo_load [.ref 0, .int x1, .long x2] σ (fun q τ => q = some (.int r) ∧ τ = σ') :=
  am_M_of ok_Mo_load (Nat.le_of_ble_eq_true rfl) (t_Mo_load_0 h)
def g_Mo_clear (σ : am_S) : Option (Unit × am_S) :=
  am_bd (g_Mo_forget (am_fi (am_fi σ 0 1 0) 0 3 0)) fun _ σ8 =>
  some ((), σ8)
set_option maxHeartbeats 4000000 in
theorem t_Mo_clear_0 {σ σ' : am_S} {r : Unit} (h : g_Mo_clear σ = some (r, σ')) : am_A S_m M_Mo_clear (0, [some (.ref 0)], [], σ) (am_r S_m (fun q τ => q = none ∧ τ = σ')) := by
  unfold g_Mo_clear at h
  refine a_aload_n i_Mo_clear_0 rfl ?_
  refine a_iconst i_Mo_clear_1 ?_
  refine a_puti i_Mo_clear_2 rfl trivial ?_
  refine a_aload_n i_Mo_clear_5 rfl ?_
  refine a_iconst i_Mo_clear_6 ?_
  refine a_puti i_Mo_clear_7 rfl trivial ?_
  refine a_aload_n i_Mo_clear_10 rfl ?_
  obtain ⟨v8, σ8, e8, h⟩ := am_bd_some h
  refine am_cvd (rest := []) [] c_Mo_clear_11 ⟨by decide, _, rfl⟩ rfl (Nat.le_of_ble_eq_true rfl) (t_Mo_forget e8) ?_
  exact am_ret_v ok_Mo_clear rfl rfl (am_lf_v h)
theorem t_Mo_clear {σ σ' : am_S} {r : Unit} (h : g_Mo_clear σ = some (r, σ')) : am_Mt S_m M_Mo_clear [.ref 0] σ (fun q τ => q = none ∧ τ = σ') :=
  am_M_of ok_Mo_clear (Nat.le_of_ble_eq_true rfl) (t_Mo_clear_0 h)
def g_Mo_peek_7 : Nat → Int32 → Int64 → Int32 → am_S → Option (Int64 × am_S)
  | 0, _, _, _, _ => none
  | n + 1, x1, x3, x5, σ =>
  if x5 < 0 then
    some (x3, σ)
  else
    am_gd (inb (x1 + x5) 3000) <|
    g_Mo_peek_7 n x1 ((x3 <<< ((8 : Int32).toInt64 &&& 63)) ||| (((σ.2.1 2 (x1 + x5).toNatClampNeg) &&& 255).toInt64)) (x5 + (-1)) σ
set_option maxHeartbeats 4000000 in
theorem t_Mo_peek_7 : ∀ (n : Nat) {x1 : Int32} {x3 : Int64} {x5 : Int32} {σ σ' : am_S} {r : Int64} (h : g_Mo_peek_7 n x1 x3 x5 σ = some (r, σ')), am_A S_m M_Mo_peek (7, [some (.ref 0), some (.int x1), none, some (.long x3), none, some (.int x5)], [], σ) (am_r S_m (fun q τ => q = some (.long r) ∧ τ = σ')) := by
  intro n
  induction n with
  | zero =>
    intro x1 x3 x5 σ σ' r h
    cases h
  | succ n ih =>
  intro x1 x3 x5 σ σ' r h
  unfold g_Mo_peek_7 at h
  refine a_iload i_Mo_peek_7 rfl ?_
  by_cases c2 : x5 < 0
  · rw [if_pos c2] at h
    refine a_ift i_Mo_peek_9 c2 ?_
    refine a_lload_n i_Mo_peek_38 rfl ?_
    exact am_ret_l ok_Mo_peek rfl rfl (am_lf_l h)
  · rw [if_neg c2] at h
    refine a_iff i_Mo_peek_9 c2 ?_
    refine a_lload_n i_Mo_peek_12 rfl ?_
    refine a_bipush i_Mo_peek_13 ?_
    refine a_lshl i_Mo_peek_15 ?_
    refine a_aload_n i_Mo_peek_16 rfl ?_
    refine a_get (v := .ref 2) i_Mo_peek_17 rfl rfl ?_
    refine a_iload_n i_Mo_peek_20 rfl ?_
    refine a_iload i_Mo_peek_21 rfl ?_
    refine a_iadd i_Mo_peek_23 ?_
    obtain ⟨c11, h⟩ := gd_some h
    refine a_bal (n := 3000) i_Mo_peek_24 rfl rfl (inb_in c11) ?_
    refine a_sipush i_Mo_peek_25 ?_
    refine a_iand i_Mo_peek_28 ?_
    refine a_i2l i_Mo_peek_29 ?_
    refine a_lor i_Mo_peek_30 ?_
    refine a_lstore_n i_Mo_peek_31 rfl ?_
    refine a_iinc i_Mo_peek_32 rfl rfl ?_
    refine a_goto i_Mo_peek_35 ?_
    exact ih h
def g_Mo_peek (x1 : Int32) (x2 : Int32) (σ : am_S) : Option (Int64 × am_S) :=
  g_Mo_peek_7 4000 x1 (0) (x2 - 1) σ
set_option maxHeartbeats 4000000 in
theorem t_Mo_peek_0 {x1 : Int32} {x2 : Int32} {σ σ' : am_S} {r : Int64} (h : g_Mo_peek x1 x2 σ = some (r, σ')) : am_A S_m M_Mo_peek (0, [some (.ref 0), some (.int x1), some (.int x2), none, none, none], [], σ) (am_r S_m (fun q τ => q = some (.long r) ∧ τ = σ')) := by
  unfold g_Mo_peek at h
  refine a_lconst i_Mo_peek_0 ?_
  refine a_lstore_n i_Mo_peek_1 rfl ?_
  refine a_iload_n i_Mo_peek_2 rfl ?_
  refine a_iconst i_Mo_peek_3 ?_
  refine a_isub i_Mo_peek_4 ?_
  refine a_istore i_Mo_peek_5 rfl ?_
  exact am_wk (t_Mo_peek_7 4000 h) ⟨Or.inr rfl, Or.inr rfl, Or.inl rfl, Or.inr rfl, Or.inl rfl, Or.inr rfl, trivial⟩
theorem t_Mo_peek {x1 : Int32} {x2 : Int32} {σ σ' : am_S} {r : Int64} (h : g_Mo_peek x1 x2 σ = some (r, σ')) : am_Mt S_m M_Mo_peek [.ref 0, .int x1, .int x2] σ (fun q τ => q = some (.long r) ∧ τ = σ') :=
  am_M_of ok_Mo_peek (Nat.le_of_ble_eq_true rfl) (t_Mo_peek_0 h)
def g_Mo_u_20 (σ : am_S) : Option (Int64 × am_S) :=
  some (0, am_fi σ 0 8 1)
set_option maxHeartbeats 4000000 in
theorem t_Mo_u_20 {σ σ' : am_S} {r : Int64} (h : g_Mo_u_20 σ = some (r, σ')) : am_A S_m M_Mo_u (20, [some (.ref 0), none], [], σ) (am_r S_m (fun q τ => q = some (.long r) ∧ τ = σ')) := by
  unfold g_Mo_u_20 at h
  refine a_aload_n i_Mo_u_20 rfl ?_
  refine a_iconst i_Mo_u_21 ?_
  refine a_puti i_Mo_u_22 rfl (Or.inr rfl) ?_
  refine a_lconst i_Mo_u_25 ?_
  exact am_ret_l ok_Mo_u rfl rfl (am_lf_l h)
def g_Mo_u (x1 : Int32) (σ : am_S) : Option (Int64 × am_S) :=
  if (σ.1.1 0 8) = 0 then
    if (σ.1.1 0 7) < ((σ.1.1 0 6) + x1) then
      g_Mo_u_20 σ
    else
      am_bd (g_Mo_peek (((σ.1.1 0 6) + x1) - x1) x1 (am_fi σ 0 6 ((σ.1.1 0 6) + x1))) fun v23 σ23 =>
      some (v23, σ23)
  else
    g_Mo_u_20 σ
set_option maxHeartbeats 4000000 in
theorem t_Mo_u_0 {x1 : Int32} {σ σ' : am_S} {r : Int64} (h : g_Mo_u x1 σ = some (r, σ')) : am_A S_m M_Mo_u (0, [some (.ref 0), some (.int x1)], [], σ) (am_r S_m (fun q τ => q = some (.long r) ∧ τ = σ')) := by
  unfold g_Mo_u at h
  refine a_aload_n i_Mo_u_0 rfl ?_
  refine a_get (v := .int (σ.1.1 0 8)) i_Mo_u_1 rfl rfl ?_
  by_cases c3 : (σ.1.1 0 8) = 0
  · rw [if_pos c3] at h
    refine a_iff i_Mo_u_4 c3 ?_
    refine a_aload_n i_Mo_u_7 rfl ?_
    refine a_get (v := .int (σ.1.1 0 6)) i_Mo_u_8 rfl rfl ?_
    refine a_iload_n i_Mo_u_11 rfl ?_
    refine a_iadd i_Mo_u_12 ?_
    refine a_aload_n i_Mo_u_13 rfl ?_
    refine a_get (v := .int (σ.1.1 0 7)) i_Mo_u_14 rfl rfl ?_
    by_cases c10 : (σ.1.1 0 7) < ((σ.1.1 0 6) + x1)
    · rw [if_pos c10] at h
      refine a_icf i_Mo_u_17 (Int32.not_le.mpr c10) ?_
      exact am_wk (t_Mo_u_20 h) ⟨Or.inr rfl, Or.inl rfl, trivial⟩
    · rw [if_neg c10] at h
      refine a_ict i_Mo_u_17 (Int32.not_lt.mp c10) ?_
      refine a_aload_n i_Mo_u_27 rfl ?_
      refine a_dup_a i_Mo_u_28 ?_
      refine a_get (v := .int (σ.1.1 0 6)) i_Mo_u_29 rfl rfl ?_
      refine a_iload_n i_Mo_u_32 rfl ?_
      refine a_iadd i_Mo_u_33 ?_
      refine a_puti i_Mo_u_34 rfl trivial ?_
      refine a_aload_n i_Mo_u_37 rfl ?_
      refine a_aload_n i_Mo_u_38 rfl ?_
      refine a_get (v := .int ((σ.1.1 0 6) + x1)) i_Mo_u_39 rfl rfl ?_
      refine a_iload_n i_Mo_u_42 rfl ?_
      refine a_isub i_Mo_u_43 ?_
      refine a_iload_n i_Mo_u_44 rfl ?_
      obtain ⟨v23, σ23, e23, h⟩ := am_bd_some h
      refine am_cvd (rest := []) [.int (((σ.1.1 0 6) + x1) - x1), .int x1] c_Mo_u_45 ⟨by decide, _, rfl⟩ rfl (Nat.le_of_ble_eq_true rfl) (t_Mo_peek e23) ?_
      exact am_ret_l ok_Mo_u rfl rfl (am_lf_l h)
  · rw [if_neg c3] at h
    refine a_ift i_Mo_u_4 c3 ?_
    exact am_wk (t_Mo_u_20 h) ⟨Or.inr rfl, Or.inl rfl, trivial⟩
theorem t_Mo_u {x1 : Int32} {σ σ' : am_S} {r : Int64} (h : g_Mo_u x1 σ = some (r, σ')) : am_Mt S_m M_Mo_u [.ref 0, .int x1] σ (fun q τ => q = some (.long r) ∧ τ = σ') :=
  am_M_of ok_Mo_u (Nat.le_of_ble_eq_true rfl) (t_Mo_u_0 h)
def g_Mo_leb_59 (go : Int32 → Int64 → Int32 → Int32 → am_S → Option (Int64 × am_S)) (x1 : Int32) (x2 : Int64) (x4 : Int32) (x5 : Int32) (y0 : Int32) (σ : am_S) : Option (Int64 × am_S) :=
  am_gd (z01 y0) <|
  go x1 (x2 ||| (((x5 &&& 127).toInt64) <<< ((7 * x4).toInt64 &&& 63))) (x4 + 1) x5 (am_fi σ 0 8 y0)
set_option maxHeartbeats 4000000 in
theorem t_Mo_leb_59 {x1 : Int32} {x2 : Int64} {x4 : Int32} {x5 : Int32} {y0 : Int32} {σ σ' : am_S} {r : Int64} {go : Int32 → Int64 → Int32 → Int32 → am_S → Option (Int64 × am_S)} (hgo : ∀ {x1 : Int32} {x2 : Int64} {x4 : Int32} {x5 : Int32} {σ σ' : am_S} {r : Int64}, go x1 x2 x4 x5 σ = some (r, σ') → am_A S_m M_Mo_leb (10, [some (.ref 0), some (.int x1), some (.long x2), none, some (.int x4), some (.int x5)], [], σ) (am_r S_m (fun q τ => q = some (.long r) ∧ τ = σ'))) (h : g_Mo_leb_59 go x1 x2 x4 x5 y0 σ = some (r, σ')) : am_A S_m M_Mo_leb (59, [some (.ref 0), some (.int x1), some (.long x2), none, some (.int x4), some (.int x5)], [.int y0, .ref 0], σ) (am_r S_m (fun q τ => q = some (.long r) ∧ τ = σ')) := by
  unfold g_Mo_leb_59 at h
  obtain ⟨c1, h⟩ := gd_some h
  refine a_puti i_Mo_leb_59 rfl (z01_or c1) ?_
  refine a_lload_n i_Mo_leb_62 rfl ?_
  refine a_iload i_Mo_leb_63 rfl ?_
  refine a_bipush i_Mo_leb_65 ?_
  refine a_iand i_Mo_leb_67 ?_
  refine a_i2l i_Mo_leb_68 ?_
  refine a_bipush i_Mo_leb_69 ?_
  refine a_iload i_Mo_leb_71 rfl ?_
  refine a_imul i_Mo_leb_73 ?_
  refine a_lshl i_Mo_leb_74 ?_
  refine a_lor i_Mo_leb_75 ?_
  refine a_lstore_n i_Mo_leb_76 rfl ?_
  refine a_iinc i_Mo_leb_77 rfl rfl ?_
  refine a_goto i_Mo_leb_80 ?_
  exact hgo h
def g_Mo_leb_54 (go : Int32 → Int64 → Int32 → Int32 → am_S → Option (Int64 × am_S)) (x1 : Int32) (x2 : Int64) (x4 : Int32) (x5 : Int32) (σ : am_S) : Option (Int64 × am_S) :=
  g_Mo_leb_59 go x1 x2 x4 x5 (1) σ
set_option maxHeartbeats 4000000 in
theorem t_Mo_leb_54 {x1 : Int32} {x2 : Int64} {x4 : Int32} {x5 : Int32} {σ σ' : am_S} {r : Int64} {go : Int32 → Int64 → Int32 → Int32 → am_S → Option (Int64 × am_S)} (hgo : ∀ {x1 : Int32} {x2 : Int64} {x4 : Int32} {x5 : Int32} {σ σ' : am_S} {r : Int64}, go x1 x2 x4 x5 σ = some (r, σ') → am_A S_m M_Mo_leb (10, [some (.ref 0), some (.int x1), some (.long x2), none, some (.int x4), some (.int x5)], [], σ) (am_r S_m (fun q τ => q = some (.long r) ∧ τ = σ'))) (h : g_Mo_leb_54 go x1 x2 x4 x5 σ = some (r, σ')) : am_A S_m M_Mo_leb (54, [some (.ref 0), some (.int x1), some (.long x2), none, some (.int x4), some (.int x5)], [.ref 0], σ) (am_r S_m (fun q τ => q = some (.long r) ∧ τ = σ')) := by
  unfold g_Mo_leb_54 at h
  refine a_iconst i_Mo_leb_54 ?_
  refine a_goto i_Mo_leb_55 ?_
  exact t_Mo_leb_59 hgo h
def g_Mo_leb_58 (go : Int32 → Int64 → Int32 → Int32 → am_S → Option (Int64 × am_S)) (x1 : Int32) (x2 : Int64) (x4 : Int32) (x5 : Int32) (σ : am_S) : Option (Int64 × am_S) :=
  g_Mo_leb_59 go x1 x2 x4 x5 (0) σ
set_option maxHeartbeats 4000000 in
theorem t_Mo_leb_58 {x1 : Int32} {x2 : Int64} {x4 : Int32} {x5 : Int32} {σ σ' : am_S} {r : Int64} {go : Int32 → Int64 → Int32 → Int32 → am_S → Option (Int64 × am_S)} (hgo : ∀ {x1 : Int32} {x2 : Int64} {x4 : Int32} {x5 : Int32} {σ σ' : am_S} {r : Int64}, go x1 x2 x4 x5 σ = some (r, σ') → am_A S_m M_Mo_leb (10, [some (.ref 0), some (.int x1), some (.long x2), none, some (.int x4), some (.int x5)], [], σ) (am_r S_m (fun q τ => q = some (.long r) ∧ τ = σ'))) (h : g_Mo_leb_58 go x1 x2 x4 x5 σ = some (r, σ')) : am_A S_m M_Mo_leb (58, [some (.ref 0), some (.int x1), some (.long x2), none, some (.int x4), some (.int x5)], [.ref 0], σ) (am_r S_m (fun q τ => q = some (.long r) ∧ τ = σ')) := by
  unfold g_Mo_leb_58 at h
  refine a_iconst i_Mo_leb_58 ?_
  exact t_Mo_leb_59 hgo h
def g_Mo_leb_117 (y0 : Int64) (σ : am_S) : Option (Int64 × am_S) :=
  some (y0, σ)
set_option maxHeartbeats 4000000 in
theorem t_Mo_leb_117 {y0 : Int64} {σ σ' : am_S} {r : Int64} (h : g_Mo_leb_117 y0 σ = some (r, σ')) : am_A S_m M_Mo_leb (117, [none, none, none, none, none, none], [.long y0], σ) (am_r S_m (fun q τ => q = some (.long r) ∧ τ = σ')) := by
  unfold g_Mo_leb_117 at h
  exact am_ret_l ok_Mo_leb rfl rfl (am_lf_l h)
def g_Mo_leb_116 (x2 : Int64) (σ : am_S) : Option (Int64 × am_S) :=
  g_Mo_leb_117 x2 σ
set_option maxHeartbeats 4000000 in
theorem t_Mo_leb_116 {x2 : Int64} {σ σ' : am_S} {r : Int64} (h : g_Mo_leb_116 x2 σ = some (r, σ')) : am_A S_m M_Mo_leb (116, [none, none, some (.long x2), none, none, none], [], σ) (am_r S_m (fun q τ => q = some (.long r) ∧ τ = σ')) := by
  unfold g_Mo_leb_116 at h
  refine a_lload_n i_Mo_leb_116 rfl ?_
  exact am_wk (t_Mo_leb_117 h) ⟨Or.inl rfl, Or.inl rfl, Or.inl rfl, Or.inl rfl, Or.inl rfl, Or.inl rfl, trivial⟩
def g_Mo_leb_83 (x1 : Int32) (x2 : Int64) (x4 : Int32) (x5 : Int32) (σ : am_S) : Option (Int64 × am_S) :=
  if x1 = 0 then
    g_Mo_leb_116 x2 σ
  else
    if 0 < (x5 &&& 64) then
      if x4 < 10 then
        g_Mo_leb_117 (x2 ||| ((-1) <<< ((7 * x4).toInt64 &&& 63))) σ
      else
        g_Mo_leb_116 x2 σ
    else
      g_Mo_leb_116 x2 σ
set_option maxHeartbeats 4000000 in
theorem t_Mo_leb_83 {x1 : Int32} {x2 : Int64} {x4 : Int32} {x5 : Int32} {σ σ' : am_S} {r : Int64} (h : g_Mo_leb_83 x1 x2 x4 x5 σ = some (r, σ')) : am_A S_m M_Mo_leb (83, [none, some (.int x1), some (.long x2), none, some (.int x4), some (.int x5)], [], σ) (am_r S_m (fun q τ => q = some (.long r) ∧ τ = σ')) := by
  unfold g_Mo_leb_83 at h
  refine a_iload_n i_Mo_leb_83 rfl ?_
  by_cases c2 : x1 = 0
  · rw [if_pos c2] at h
    refine a_ift i_Mo_leb_84 c2 ?_
    exact am_wk (t_Mo_leb_116 h) ⟨Or.inl rfl, Or.inl rfl, Or.inr rfl, Or.inl rfl, Or.inl rfl, Or.inl rfl, trivial⟩
  · rw [if_neg c2] at h
    refine a_iff i_Mo_leb_84 c2 ?_
    refine a_iload i_Mo_leb_87 rfl ?_
    refine a_bipush i_Mo_leb_89 ?_
    refine a_iand i_Mo_leb_91 ?_
    by_cases c6 : 0 < (x5 &&& 64)
    · rw [if_pos c6] at h
      refine a_iff i_Mo_leb_92 (Int32.not_le.mpr c6) ?_
      refine a_iload i_Mo_leb_95 rfl ?_
      refine a_bipush i_Mo_leb_97 ?_
      by_cases c9 : x4 < 10
      · rw [if_pos c9] at h
        refine a_icf i_Mo_leb_99 (Int32.not_le.mpr c9) ?_
        refine a_lload_n i_Mo_leb_102 rfl ?_
        refine a_ldc2 i_Mo_leb_103 ?_
        refine a_bipush i_Mo_leb_106 ?_
        refine a_iload i_Mo_leb_108 rfl ?_
        refine a_imul i_Mo_leb_110 ?_
        refine a_lshl i_Mo_leb_111 ?_
        refine a_lor i_Mo_leb_112 ?_
        refine a_goto i_Mo_leb_113 ?_
        exact am_wk (t_Mo_leb_117 h) ⟨Or.inl rfl, Or.inl rfl, Or.inl rfl, Or.inl rfl, Or.inl rfl, Or.inl rfl, trivial⟩
      · rw [if_neg c9] at h
        refine a_ict i_Mo_leb_99 (Int32.not_lt.mp c9) ?_
        exact am_wk (t_Mo_leb_116 h) ⟨Or.inl rfl, Or.inl rfl, Or.inr rfl, Or.inl rfl, Or.inl rfl, Or.inl rfl, trivial⟩
    · rw [if_neg c6] at h
      refine a_ift i_Mo_leb_92 (Int32.not_lt.mp c6) ?_
      exact am_wk (t_Mo_leb_116 h) ⟨Or.inl rfl, Or.inl rfl, Or.inr rfl, Or.inl rfl, Or.inl rfl, Or.inl rfl, trivial⟩
def g_Mo_leb_10 : Nat → Int32 → Int64 → Int32 → Int32 → am_S → Option (Int64 × am_S)
  | 0, _, _, _, _, _ => none
  | n + 1, x1, x2, x4, x5, σ =>
  if 127 < x5 then
    if (σ.1.1 0 8) = 0 then
      am_bd (g_Mo_u (1) σ) fun v9 σ9 =>
      if (σ9.1.1 0 8) = 0 then
        if x4 = 9 then
          if 127 < v9.toInt32 then
            g_Mo_leb_54 (g_Mo_leb_10 n) x1 x2 x4 v9.toInt32 σ9
          else
            g_Mo_leb_58 (g_Mo_leb_10 n) x1 x2 x4 v9.toInt32 σ9
        else
          g_Mo_leb_58 (g_Mo_leb_10 n) x1 x2 x4 v9.toInt32 σ9
      else
        g_Mo_leb_54 (g_Mo_leb_10 n) x1 x2 x4 v9.toInt32 σ9
    else
      g_Mo_leb_83 x1 x2 x4 x5 σ
  else
    g_Mo_leb_83 x1 x2 x4 x5 σ
set_option maxHeartbeats 4000000 in
theorem t_Mo_leb_10 : ∀ (n : Nat) {x1 : Int32} {x2 : Int64} {x4 : Int32} {x5 : Int32} {σ σ' : am_S} {r : Int64} (h : g_Mo_leb_10 n x1 x2 x4 x5 σ = some (r, σ')), am_A S_m M_Mo_leb (10, [some (.ref 0), some (.int x1), some (.long x2), none, some (.int x4), some (.int x5)], [], σ) (am_r S_m (fun q τ => q = some (.long r) ∧ τ = σ')) := by
  intro n
  induction n with
  | zero =>
    intro x1 x2 x4 x5 σ σ' r h
    cases h
  | succ n ih =>
  intro x1 x2 x4 x5 σ σ' r h
  unfold g_Mo_leb_10 at h
  refine a_iload i_Mo_leb_10 rfl ?_
  refine a_bipush i_Mo_leb_12 ?_
  by_cases c3 : 127 < x5
  · rw [if_pos c3] at h
    refine a_icf i_Mo_leb_14 (Int32.not_le.mpr c3) ?_
    refine a_aload_n i_Mo_leb_17 rfl ?_
    refine a_get (v := .int (σ.1.1 0 8)) i_Mo_leb_18 rfl rfl ?_
    by_cases c6 : (σ.1.1 0 8) = 0
    · rw [if_pos c6] at h
      refine a_iff i_Mo_leb_21 c6 ?_
      refine a_aload_n i_Mo_leb_24 rfl ?_
      refine a_iconst i_Mo_leb_25 ?_
      obtain ⟨v9, σ9, e9, h⟩ := am_bd_some h
      refine am_cvd (rest := []) [.int 1] c_Mo_leb_26 ⟨by decide, _, rfl⟩ rfl (Nat.le_of_ble_eq_true rfl) (t_Mo_u e9) ?_
      refine a_l2i i_Mo_leb_29 ?_
      refine a_istore i_Mo_leb_30 rfl ?_
      refine a_aload_n i_Mo_leb_32 rfl ?_
      refine a_aload_n i_Mo_leb_33 rfl ?_
      refine a_get (v := .int (σ9.1.1 0 8)) i_Mo_leb_34 rfl rfl ?_
      by_cases c15 : (σ9.1.1 0 8) = 0
      · rw [if_pos c15] at h
        refine a_iff i_Mo_leb_37 c15 ?_
        refine a_iload i_Mo_leb_40 rfl ?_
        refine a_bipush i_Mo_leb_42 ?_
        by_cases c18 : x4 = 9
        · rw [if_pos c18] at h
          refine a_icf i_Mo_leb_44 c18 ?_
          refine a_iload i_Mo_leb_47 rfl ?_
          refine a_bipush i_Mo_leb_49 ?_
          by_cases c21 : 127 < v9.toInt32
          · rw [if_pos c21] at h
            refine a_icf i_Mo_leb_51 (Int32.not_le.mpr c21) ?_
            exact t_Mo_leb_54 (fun h => ih h) h
          · rw [if_neg c21] at h
            refine a_ict i_Mo_leb_51 (Int32.not_lt.mp c21) ?_
            exact t_Mo_leb_58 (fun h => ih h) h
        · rw [if_neg c18] at h
          refine a_ict i_Mo_leb_44 c18 ?_
          exact t_Mo_leb_58 (fun h => ih h) h
      · rw [if_neg c15] at h
        refine a_ift i_Mo_leb_37 c15 ?_
        exact t_Mo_leb_54 (fun h => ih h) h
    · rw [if_neg c6] at h
      refine a_ift i_Mo_leb_21 c6 ?_
      exact am_wk (t_Mo_leb_83 h) ⟨Or.inl rfl, Or.inr rfl, Or.inr rfl, Or.inl rfl, Or.inr rfl, Or.inr rfl, trivial⟩
  · rw [if_neg c3] at h
    refine a_ict i_Mo_leb_14 (Int32.not_lt.mp c3) ?_
    exact am_wk (t_Mo_leb_83 h) ⟨Or.inl rfl, Or.inr rfl, Or.inr rfl, Or.inl rfl, Or.inr rfl, Or.inr rfl, trivial⟩
def g_Mo_leb (x1 : Int32) (σ : am_S) : Option (Int64 × am_S) :=
  g_Mo_leb_10 4000 x1 (0) (0) (128) σ
set_option maxHeartbeats 4000000 in
theorem t_Mo_leb_0 {x1 : Int32} {σ σ' : am_S} {r : Int64} (h : g_Mo_leb x1 σ = some (r, σ')) : am_A S_m M_Mo_leb (0, [some (.ref 0), some (.int x1), none, none, none, none], [], σ) (am_r S_m (fun q τ => q = some (.long r) ∧ τ = σ')) := by
  unfold g_Mo_leb at h
  refine a_lconst i_Mo_leb_0 ?_
  refine a_lstore_n i_Mo_leb_1 rfl ?_
  refine a_iconst i_Mo_leb_2 ?_
  refine a_istore i_Mo_leb_3 rfl ?_
  refine a_sipush i_Mo_leb_5 ?_
  refine a_istore i_Mo_leb_8 rfl ?_
  exact t_Mo_leb_10 4000 h
theorem t_Mo_leb {x1 : Int32} {σ σ' : am_S} {r : Int64} (h : g_Mo_leb x1 σ = some (r, σ')) : am_Mt S_m M_Mo_leb [.ref 0, .int x1] σ (fun q τ => q = some (.long r) ∧ τ = σ') :=
  am_M_of ok_Mo_leb (Nat.le_of_ble_eq_true rfl) (t_Mo_leb_0 h)
def g_Mo_textEnd_32 (y0 : Int32) (σ : am_S) : Option (Int32 × am_S) :=
  some (y0, σ)
set_option maxHeartbeats 4000000 in
theorem t_Mo_textEnd_32 {y0 : Int32} {σ σ' : am_S} {r : Int32} (h : g_Mo_textEnd_32 y0 σ = some (r, σ')) : am_A S_m M_Mo_textEnd (32, [none, none, none, none], [.int y0], σ) (am_r S_m (fun q τ => q = some (.int r) ∧ τ = σ')) := by
  unfold g_Mo_textEnd_32 at h
  exact am_ret_i ok_Mo_textEnd rfl rfl (am_lf_i h)
def g_Mo_textEnd_22 (x2 : Int32) (x3 : Int32) (σ : am_S) : Option (Int32 × am_S) :=
  if x3 < x2 then
    g_Mo_textEnd_32 x3 σ
  else
    g_Mo_textEnd_32 (-1) σ
set_option maxHeartbeats 4000000 in
theorem t_Mo_textEnd_22 {x2 : Int32} {x3 : Int32} {σ σ' : am_S} {r : Int32} (h : g_Mo_textEnd_22 x2 x3 σ = some (r, σ')) : am_A S_m M_Mo_textEnd (22, [none, none, some (.int x2), some (.int x3)], [], σ) (am_r S_m (fun q τ => q = some (.int r) ∧ τ = σ')) := by
  unfold g_Mo_textEnd_22 at h
  refine a_iload_n i_Mo_textEnd_22 rfl ?_
  refine a_iload_n i_Mo_textEnd_23 rfl ?_
  by_cases c3 : x3 < x2
  · rw [if_pos c3] at h
    refine a_icf i_Mo_textEnd_24 (Int32.not_le.mpr c3) ?_
    refine a_iload_n i_Mo_textEnd_27 rfl ?_
    refine a_goto i_Mo_textEnd_28 ?_
    exact am_wk (t_Mo_textEnd_32 h) ⟨Or.inl rfl, Or.inl rfl, Or.inl rfl, Or.inl rfl, trivial⟩
  · rw [if_neg c3] at h
    refine a_ict i_Mo_textEnd_24 (Int32.not_lt.mp c3) ?_
    refine a_iconst i_Mo_textEnd_31 ?_
    exact am_wk (t_Mo_textEnd_32 h) ⟨Or.inl rfl, Or.inl rfl, Or.inl rfl, Or.inl rfl, trivial⟩
def g_Mo_textEnd_2 : Nat → Int32 → Int32 → am_S → Option (Int32 × am_S)
  | 0, _, _, _ => none
  | n + 1, x2, x3, σ =>
  if x3 < x2 then
    am_gd (inb x3 3000) <|
    if (σ.2.1 2 x3.toNatClampNeg) = 0 then
      g_Mo_textEnd_22 x2 x3 σ
    else
      g_Mo_textEnd_2 n x2 (x3 + 1) σ
  else
    g_Mo_textEnd_22 x2 x3 σ
set_option maxHeartbeats 4000000 in
theorem t_Mo_textEnd_2 : ∀ (n : Nat) {x2 : Int32} {x3 : Int32} {σ σ' : am_S} {r : Int32} (h : g_Mo_textEnd_2 n x2 x3 σ = some (r, σ')), am_A S_m M_Mo_textEnd (2, [some (.ref 0), none, some (.int x2), some (.int x3)], [], σ) (am_r S_m (fun q τ => q = some (.int r) ∧ τ = σ')) := by
  intro n
  induction n with
  | zero =>
    intro x2 x3 σ σ' r h
    cases h
  | succ n ih =>
  intro x2 x3 σ σ' r h
  unfold g_Mo_textEnd_2 at h
  refine a_iload_n i_Mo_textEnd_2 rfl ?_
  refine a_iload_n i_Mo_textEnd_3 rfl ?_
  by_cases c3 : x3 < x2
  · rw [if_pos c3] at h
    refine a_icf i_Mo_textEnd_4 (Int32.not_le.mpr c3) ?_
    refine a_aload_n i_Mo_textEnd_7 rfl ?_
    refine a_get (v := .ref 2) i_Mo_textEnd_8 rfl rfl ?_
    refine a_iload_n i_Mo_textEnd_11 rfl ?_
    obtain ⟨c7, h⟩ := gd_some h
    refine a_bal (n := 3000) i_Mo_textEnd_12 rfl rfl (inb_in c7) ?_
    by_cases c8 : (σ.2.1 2 x3.toNatClampNeg) = 0
    · rw [if_pos c8] at h
      refine a_ift i_Mo_textEnd_13 c8 ?_
      exact am_wk (t_Mo_textEnd_22 h) ⟨Or.inl rfl, Or.inl rfl, Or.inr rfl, Or.inr rfl, trivial⟩
    · rw [if_neg c8] at h
      refine a_iff i_Mo_textEnd_13 c8 ?_
      refine a_iinc i_Mo_textEnd_16 rfl rfl ?_
      refine a_goto i_Mo_textEnd_19 ?_
      exact ih h
  · rw [if_neg c3] at h
    refine a_ict i_Mo_textEnd_4 (Int32.not_lt.mp c3) ?_
    exact am_wk (t_Mo_textEnd_22 h) ⟨Or.inl rfl, Or.inl rfl, Or.inr rfl, Or.inr rfl, trivial⟩
def g_Mo_textEnd (x1 : Int32) (x2 : Int32) (σ : am_S) : Option (Int32 × am_S) :=
  g_Mo_textEnd_2 4000 x2 x1 σ
set_option maxHeartbeats 4000000 in
theorem t_Mo_textEnd_0 {x1 : Int32} {x2 : Int32} {σ σ' : am_S} {r : Int32} (h : g_Mo_textEnd x1 x2 σ = some (r, σ')) : am_A S_m M_Mo_textEnd (0, [some (.ref 0), some (.int x1), some (.int x2), none], [], σ) (am_r S_m (fun q τ => q = some (.int r) ∧ τ = σ')) := by
  unfold g_Mo_textEnd at h
  refine a_iload_n i_Mo_textEnd_0 rfl ?_
  refine a_istore_n i_Mo_textEnd_1 rfl ?_
  exact am_wk (t_Mo_textEnd_2 4000 h) ⟨Or.inr rfl, Or.inl rfl, Or.inr rfl, Or.inr rfl, trivial⟩
theorem t_Mo_textEnd {x1 : Int32} {x2 : Int32} {σ σ' : am_S} {r : Int32} (h : g_Mo_textEnd x1 x2 σ = some (r, σ')) : am_Mt S_m M_Mo_textEnd [.ref 0, .int x1, .int x2] σ (fun q τ => q = some (.int r) ∧ τ = σ') :=
  am_M_of ok_Mo_textEnd (Nat.le_of_ble_eq_true rfl) (t_Mo_textEnd_0 h)
def g_Mo_text_61 (x1 : Int32) (y0 : Int32) (σ : am_S) : Option (Int32 × am_S) :=
  some (x1, am_fi σ 0 6 y0)
set_option maxHeartbeats 4000000 in
theorem t_Mo_text_61 {x1 : Int32} {y0 : Int32} {σ σ' : am_S} {r : Int32} (h : g_Mo_text_61 x1 y0 σ = some (r, σ')) : am_A S_m M_Mo_text (61, [none, some (.int x1), none], [.int y0, .ref 0], σ) (am_r S_m (fun q τ => q = some (.int r) ∧ τ = σ')) := by
  unfold g_Mo_text_61 at h
  refine a_puti i_Mo_text_61 rfl trivial ?_
  refine a_iload_n i_Mo_text_64 rfl ?_
  exact am_ret_i ok_Mo_text rfl rfl (am_lf_i h)
def g_Mo_text_40 (x1 : Int32) (x2 : Int32) (y0 : Int32) (σ : am_S) : Option (Int32 × am_S) :=
  am_gd (z01 y0) <|
  if y0 = 0 then
    g_Mo_text_61 x1 (x2 + 1) (am_fi σ 0 8 y0)
  else
    g_Mo_text_61 x1 (σ.1.1 0 6) (am_fi σ 0 8 y0)
set_option maxHeartbeats 4000000 in
theorem t_Mo_text_40 {x1 : Int32} {x2 : Int32} {y0 : Int32} {σ σ' : am_S} {r : Int32} (h : g_Mo_text_40 x1 x2 y0 σ = some (r, σ')) : am_A S_m M_Mo_text (40, [some (.ref 0), some (.int x1), some (.int x2)], [.int y0, .ref 0], σ) (am_r S_m (fun q τ => q = some (.int r) ∧ τ = σ')) := by
  unfold g_Mo_text_40 at h
  obtain ⟨c1, h⟩ := gd_some h
  refine a_puti i_Mo_text_40 rfl (z01_or c1) ?_
  refine a_aload_n i_Mo_text_43 rfl ?_
  refine a_aload_n i_Mo_text_44 rfl ?_
  refine a_get (v := .int y0) i_Mo_text_45 rfl rfl ?_
  by_cases c5 : y0 = 0
  · rw [if_pos c5] at h
    refine a_ift i_Mo_text_48 c5 ?_
    refine a_iload_n i_Mo_text_58 rfl ?_
    refine a_iconst i_Mo_text_59 ?_
    refine a_iadd i_Mo_text_60 ?_
    exact am_wk (t_Mo_text_61 h) ⟨Or.inl rfl, Or.inr rfl, Or.inl rfl, trivial⟩
  · rw [if_neg c5] at h
    refine a_iff i_Mo_text_48 c5 ?_
    refine a_aload_n i_Mo_text_51 rfl ?_
    refine a_get (v := .int (σ.1.1 0 6)) i_Mo_text_52 rfl rfl ?_
    refine a_goto i_Mo_text_55 ?_
    exact am_wk (t_Mo_text_61 h) ⟨Or.inl rfl, Or.inr rfl, Or.inl rfl, trivial⟩
def g_Mo_text_28 (x1 : Int32) (y0 : Int32) (σ : am_S) : Option (Int32 × am_S) :=
  if y0 = (-1) then
    g_Mo_text_40 x1 y0 (1) σ
  else
    g_Mo_text_40 x1 y0 (0) σ
set_option maxHeartbeats 4000000 in
theorem t_Mo_text_28 {x1 : Int32} {y0 : Int32} {σ σ' : am_S} {r : Int32} (h : g_Mo_text_28 x1 y0 σ = some (r, σ')) : am_A S_m M_Mo_text (28, [some (.ref 0), some (.int x1), none], [.int y0], σ) (am_r S_m (fun q τ => q = some (.int r) ∧ τ = σ')) := by
  unfold g_Mo_text_28 at h
  refine a_istore_n i_Mo_text_28 rfl ?_
  refine a_aload_n i_Mo_text_29 rfl ?_
  refine a_iload_n i_Mo_text_30 rfl ?_
  refine a_iconst i_Mo_text_31 ?_
  by_cases c5 : y0 = (-1)
  · rw [if_pos c5] at h
    refine a_icf i_Mo_text_32 c5 ?_
    refine a_iconst i_Mo_text_35 ?_
    refine a_goto i_Mo_text_36 ?_
    exact t_Mo_text_40 h
  · rw [if_neg c5] at h
    refine a_ict i_Mo_text_32 c5 ?_
    refine a_iconst i_Mo_text_39 ?_
    exact t_Mo_text_40 h
def g_Mo_text (σ : am_S) : Option (Int32 × am_S) :=
  if (σ.1.1 0 8) = 0 then
    am_bd (g_Mo_textEnd (σ.1.1 0 6) (σ.1.1 0 7) σ) fun v12 σ12 =>
    g_Mo_text_28 (σ.1.1 0 6) v12 σ12
  else
    g_Mo_text_28 (σ.1.1 0 6) (-1) σ
set_option maxHeartbeats 4000000 in
theorem t_Mo_text_0 {σ σ' : am_S} {r : Int32} (h : g_Mo_text σ = some (r, σ')) : am_A S_m M_Mo_text (0, [some (.ref 0), none, none], [], σ) (am_r S_m (fun q τ => q = some (.int r) ∧ τ = σ')) := by
  unfold g_Mo_text at h
  refine a_aload_n i_Mo_text_0 rfl ?_
  refine a_get (v := .int (σ.1.1 0 6)) i_Mo_text_1 rfl rfl ?_
  refine a_istore_n i_Mo_text_4 rfl ?_
  refine a_aload_n i_Mo_text_5 rfl ?_
  refine a_get (v := .int (σ.1.1 0 8)) i_Mo_text_6 rfl rfl ?_
  by_cases c6 : (σ.1.1 0 8) = 0
  · rw [if_pos c6] at h
    refine a_ift i_Mo_text_9 c6 ?_
    refine a_aload_n i_Mo_text_16 rfl ?_
    refine a_aload_n i_Mo_text_17 rfl ?_
    refine a_get (v := .int (σ.1.1 0 6)) i_Mo_text_18 rfl rfl ?_
    refine a_aload_n i_Mo_text_21 rfl ?_
    refine a_get (v := .int (σ.1.1 0 7)) i_Mo_text_22 rfl rfl ?_
    obtain ⟨v12, σ12, e12, h⟩ := am_bd_some h
    refine am_cvd (rest := []) [.int (σ.1.1 0 6), .int (σ.1.1 0 7)] c_Mo_text_25 ⟨by decide, _, rfl⟩ rfl (Nat.le_of_ble_eq_true rfl) (t_Mo_textEnd e12) ?_
    exact t_Mo_text_28 h
  · rw [if_neg c6] at h
    refine a_iff i_Mo_text_9 c6 ?_
    refine a_iconst i_Mo_text_12 ?_
    refine a_goto i_Mo_text_13 ?_
    exact t_Mo_text_28 h
theorem t_Mo_text {σ σ' : am_S} {r : Int32} (h : g_Mo_text σ = some (r, σ')) : am_Mt S_m M_Mo_text [.ref 0] σ (fun q τ => q = some (.int r) ∧ τ = σ') :=
  am_M_of ok_Mo_text (Nat.le_of_ble_eq_true rfl) (t_Mo_text_0 h)
def g_Mo_pass_59 (y0 : Int32) (σ : am_S) : Option (Unit × am_S) :=
  some ((), am_fi σ 0 6 y0)
set_option maxHeartbeats 4000000 in
theorem t_Mo_pass_59 {y0 : Int32} {σ σ' : am_S} {r : Unit} (h : g_Mo_pass_59 y0 σ = some (r, σ')) : am_A S_m M_Mo_pass (59, [none, none, none], [.int y0, .ref 0], σ) (am_r S_m (fun q τ => q = none ∧ τ = σ')) := by
  unfold g_Mo_pass_59 at h
  refine a_puti i_Mo_pass_59 rfl trivial ?_
  exact am_ret_v ok_Mo_pass rfl rfl (am_lf_v h)
def g_Mo_pass_34 (x1 : Int64) (y0 : Int32) (σ : am_S) : Option (Unit × am_S) :=
  am_gd (z01 y0) <|
  if y0 = 0 then
    g_Mo_pass_59 ((σ.1.1 0 6) + x1.toInt32) (am_fi σ 0 8 y0)
  else
    g_Mo_pass_59 (σ.1.1 0 6) (am_fi σ 0 8 y0)
set_option maxHeartbeats 4000000 in
theorem t_Mo_pass_34 {x1 : Int64} {y0 : Int32} {σ σ' : am_S} {r : Unit} (h : g_Mo_pass_34 x1 y0 σ = some (r, σ')) : am_A S_m M_Mo_pass (34, [some (.ref 0), some (.long x1), none], [.int y0, .ref 0], σ) (am_r S_m (fun q τ => q = none ∧ τ = σ')) := by
  unfold g_Mo_pass_34 at h
  obtain ⟨c1, h⟩ := gd_some h
  refine a_puti i_Mo_pass_34 rfl (z01_or c1) ?_
  refine a_aload_n i_Mo_pass_37 rfl ?_
  refine a_aload_n i_Mo_pass_38 rfl ?_
  refine a_get (v := .int y0) i_Mo_pass_39 rfl rfl ?_
  by_cases c5 : y0 = 0
  · rw [if_pos c5] at h
    refine a_ift i_Mo_pass_42 c5 ?_
    refine a_aload_n i_Mo_pass_52 rfl ?_
    refine a_get (v := .int (σ.1.1 0 6)) i_Mo_pass_53 rfl rfl ?_
    refine a_lload_n i_Mo_pass_56 rfl ?_
    refine a_l2i i_Mo_pass_57 ?_
    refine a_iadd i_Mo_pass_58 ?_
    exact am_wk (t_Mo_pass_59 h) ⟨Or.inl rfl, Or.inl rfl, Or.inl rfl, trivial⟩
  · rw [if_neg c5] at h
    refine a_iff i_Mo_pass_42 c5 ?_
    refine a_aload_n i_Mo_pass_45 rfl ?_
    refine a_get (v := .int (σ.1.1 0 6)) i_Mo_pass_46 rfl rfl ?_
    refine a_goto i_Mo_pass_49 ?_
    exact am_wk (t_Mo_pass_59 h) ⟨Or.inl rfl, Or.inl rfl, Or.inl rfl, trivial⟩
def g_Mo_pass_29 (x1 : Int64) (σ : am_S) : Option (Unit × am_S) :=
  g_Mo_pass_34 x1 (1) σ
set_option maxHeartbeats 4000000 in
theorem t_Mo_pass_29 {x1 : Int64} {σ σ' : am_S} {r : Unit} (h : g_Mo_pass_29 x1 σ = some (r, σ')) : am_A S_m M_Mo_pass (29, [some (.ref 0), some (.long x1), none], [.ref 0], σ) (am_r S_m (fun q τ => q = none ∧ τ = σ')) := by
  unfold g_Mo_pass_29 at h
  refine a_iconst i_Mo_pass_29 ?_
  refine a_goto i_Mo_pass_30 ?_
  exact t_Mo_pass_34 h
def g_Mo_pass (x1 : Int64) (σ : am_S) : Option (Unit × am_S) :=
  if (σ.1.1 0 8) = 0 then
    if (lg_cmp x1 0) < 0 then
      g_Mo_pass_29 x1 σ
    else
      if 0 < (lg_cmp x1 (((σ.1.1 0 7) - (σ.1.1 0 6)).toInt64)) then
        g_Mo_pass_29 x1 σ
      else
        g_Mo_pass_34 x1 (0) σ
  else
    g_Mo_pass_29 x1 σ
set_option maxHeartbeats 4000000 in
theorem t_Mo_pass_0 {x1 : Int64} {σ σ' : am_S} {r : Unit} (h : g_Mo_pass x1 σ = some (r, σ')) : am_A S_m M_Mo_pass (0, [some (.ref 0), some (.long x1), none], [], σ) (am_r S_m (fun q τ => q = none ∧ τ = σ')) := by
  unfold g_Mo_pass at h
  refine a_aload_n i_Mo_pass_0 rfl ?_
  refine a_aload_n i_Mo_pass_1 rfl ?_
  refine a_get (v := .int (σ.1.1 0 8)) i_Mo_pass_2 rfl rfl ?_
  by_cases c4 : (σ.1.1 0 8) = 0
  · rw [if_pos c4] at h
    refine a_iff i_Mo_pass_5 c4 ?_
    refine a_lload_n i_Mo_pass_8 rfl ?_
    refine a_lconst i_Mo_pass_9 ?_
    refine a_lcmp i_Mo_pass_10 ?_
    by_cases c8 : (lg_cmp x1 0) < 0
    · rw [if_pos c8] at h
      refine a_ift i_Mo_pass_11 c8 ?_
      exact t_Mo_pass_29 h
    · rw [if_neg c8] at h
      refine a_iff i_Mo_pass_11 c8 ?_
      refine a_lload_n i_Mo_pass_14 rfl ?_
      refine a_aload_n i_Mo_pass_15 rfl ?_
      refine a_get (v := .int (σ.1.1 0 7)) i_Mo_pass_16 rfl rfl ?_
      refine a_aload_n i_Mo_pass_19 rfl ?_
      refine a_get (v := .int (σ.1.1 0 6)) i_Mo_pass_20 rfl rfl ?_
      refine a_isub i_Mo_pass_23 ?_
      refine a_i2l i_Mo_pass_24 ?_
      refine a_lcmp i_Mo_pass_25 ?_
      by_cases c17 : 0 < (lg_cmp x1 (((σ.1.1 0 7) - (σ.1.1 0 6)).toInt64))
      · rw [if_pos c17] at h
        refine a_iff i_Mo_pass_26 (Int32.not_le.mpr c17) ?_
        exact t_Mo_pass_29 h
      · rw [if_neg c17] at h
        refine a_ift i_Mo_pass_26 (Int32.not_lt.mp c17) ?_
        refine a_iconst i_Mo_pass_33 ?_
        exact t_Mo_pass_34 h
  · rw [if_neg c4] at h
    refine a_ift i_Mo_pass_5 c4 ?_
    exact t_Mo_pass_29 h
theorem t_Mo_pass {x1 : Int64} {σ σ' : am_S} {r : Unit} (h : g_Mo_pass x1 σ = some (r, σ')) : am_Mt S_m M_Mo_pass [.ref 0, .long x1] σ (fun q τ => q = none ∧ τ = σ') :=
  am_M_of ok_Mo_pass (Nat.le_of_ble_eq_true rfl) (t_Mo_pass_0 h)
def g_Mo_enter (x1 : Int32) (x2 : Int64) (σ : am_S) : Option (Unit × am_S) :=
  am_gd (inb x1 10) <|
  am_gd (inb x1 10) <|
  am_bd (g_Mo_pass x2 (am_fi (am_fi (am_fi σ 0 6 (σ.2.1 3 x1.toNatClampNeg)) 0 7 ((σ.2.1 3 x1.toNatClampNeg) + ((am_fi σ 0 6 (σ.2.1 3 x1.toNatClampNeg)).2.1 4 x1.toNatClampNeg))) 0 8 0)) fun _ σ21 =>
  some ((), σ21)
set_option maxHeartbeats 4000000 in
theorem t_Mo_enter_0 {x1 : Int32} {x2 : Int64} {σ σ' : am_S} {r : Unit} (h : g_Mo_enter x1 x2 σ = some (r, σ')) : am_A S_m M_Mo_enter (0, [some (.ref 0), some (.int x1), some (.long x2), none], [], σ) (am_r S_m (fun q τ => q = none ∧ τ = σ')) := by
  unfold g_Mo_enter at h
  refine a_aload_n i_Mo_enter_0 rfl ?_
  refine a_aload_n i_Mo_enter_1 rfl ?_
  refine a_get (v := .ref 3) i_Mo_enter_2 rfl rfl ?_
  refine a_iload_n i_Mo_enter_5 rfl ?_
  obtain ⟨c5, h⟩ := gd_some h
  refine a_ial (n := 10) i_Mo_enter_6 (by decide) rfl rfl (inb_in c5) ?_
  refine a_puti i_Mo_enter_7 rfl trivial ?_
  refine a_aload_n i_Mo_enter_10 rfl ?_
  refine a_aload_n i_Mo_enter_11 rfl ?_
  refine a_get (v := .int (σ.2.1 3 x1.toNatClampNeg)) i_Mo_enter_12 rfl rfl ?_
  refine a_aload_n i_Mo_enter_15 rfl ?_
  refine a_get (v := .ref 4) i_Mo_enter_16 rfl rfl ?_
  refine a_iload_n i_Mo_enter_19 rfl ?_
  obtain ⟨c13, h⟩ := gd_some h
  refine a_ial (n := 10) i_Mo_enter_20 (by decide) rfl rfl (inb_in c13) ?_
  refine a_iadd i_Mo_enter_21 ?_
  refine a_puti i_Mo_enter_22 rfl trivial ?_
  refine a_aload_n i_Mo_enter_25 rfl ?_
  refine a_iconst i_Mo_enter_26 ?_
  refine a_puti i_Mo_enter_27 rfl (Or.inl rfl) ?_
  refine a_aload_n i_Mo_enter_30 rfl ?_
  refine a_lload_n i_Mo_enter_31 rfl ?_
  obtain ⟨v21, σ21, e21, h⟩ := am_bd_some h
  refine am_cvd (rest := []) [.long x2] c_Mo_enter_32 ⟨by decide, _, rfl⟩ rfl (Nat.le_of_ble_eq_true rfl) (t_Mo_pass e21) ?_
  exact am_ret_v ok_Mo_enter rfl rfl (am_lf_v h)
theorem t_Mo_enter {x1 : Int32} {x2 : Int64} {σ σ' : am_S} {r : Unit} (h : g_Mo_enter x1 x2 σ = some (r, σ')) : am_Mt S_m M_Mo_enter [.ref 0, .int x1, .long x2] σ (fun q τ => q = none ∧ τ = σ') :=
  am_M_of ok_Mo_enter (Nat.le_of_ble_eq_true rfl) (t_Mo_enter_0 h)
def g_Mo_in_18 (y0 : Int32) (σ : am_S) : Option (Int32 × am_S) :=
  am_gd (z01 y0) <|
  some (y0, σ)
set_option maxHeartbeats 4000000 in
theorem t_Mo_in_18 {y0 : Int32} {σ σ' : am_S} {r : Int32} (h : g_Mo_in_18 y0 σ = some (r, σ')) : am_A S_m M_Mo_in (18, [none, none, none, none, none, none], [.int y0], σ) (am_r S_m (fun q τ => q = some (.int r) ∧ τ = σ')) := by
  unfold g_Mo_in_18 at h
  obtain ⟨c1, h⟩ := gd_some h
  exact am_ret_z ok_Mo_in rfl rfl (z01_or c1) (am_lf_i h)
def g_Mo_in_17 (σ : am_S) : Option (Int32 × am_S) :=
  g_Mo_in_18 (0) σ
set_option maxHeartbeats 4000000 in
theorem t_Mo_in_17 {σ σ' : am_S} {r : Int32} (h : g_Mo_in_17 σ = some (r, σ')) : am_A S_m M_Mo_in (17, [none, none, none, none, none, none], [], σ) (am_r S_m (fun q τ => q = some (.int r) ∧ τ = σ')) := by
  unfold g_Mo_in_17 at h
  refine a_iconst i_Mo_in_17 ?_
  exact t_Mo_in_18 h
def g_Mo_in (x0 : Int64) (x2 : Int64) (x4 : Int64) (σ : am_S) : Option (Int32 × am_S) :=
  if (lg_cmp x0 x2) < 0 then
    g_Mo_in_17 σ
  else
    if 0 < (lg_cmp x0 x4) then
      g_Mo_in_17 σ
    else
      g_Mo_in_18 (1) σ
set_option maxHeartbeats 4000000 in
theorem t_Mo_in_0 {x0 : Int64} {x2 : Int64} {x4 : Int64} {σ σ' : am_S} {r : Int32} (h : g_Mo_in x0 x2 x4 σ = some (r, σ')) : am_A S_m M_Mo_in (0, [some (.long x0), none, some (.long x2), none, some (.long x4), none], [], σ) (am_r S_m (fun q τ => q = some (.int r) ∧ τ = σ')) := by
  unfold g_Mo_in at h
  refine a_lload_n i_Mo_in_0 rfl ?_
  refine a_lload_n i_Mo_in_1 rfl ?_
  refine a_lcmp i_Mo_in_2 ?_
  by_cases c4 : (lg_cmp x0 x2) < 0
  · rw [if_pos c4] at h
    refine a_ift i_Mo_in_3 c4 ?_
    exact am_wk (t_Mo_in_17 h) ⟨Or.inl rfl, Or.inl rfl, Or.inl rfl, Or.inl rfl, Or.inl rfl, Or.inl rfl, trivial⟩
  · rw [if_neg c4] at h
    refine a_iff i_Mo_in_3 c4 ?_
    refine a_lload_n i_Mo_in_6 rfl ?_
    refine a_lload i_Mo_in_7 rfl ?_
    refine a_lcmp i_Mo_in_9 ?_
    by_cases c8 : 0 < (lg_cmp x0 x4)
    · rw [if_pos c8] at h
      refine a_ift i_Mo_in_10 c8 ?_
      exact am_wk (t_Mo_in_17 h) ⟨Or.inl rfl, Or.inl rfl, Or.inl rfl, Or.inl rfl, Or.inl rfl, Or.inl rfl, trivial⟩
    · rw [if_neg c8] at h
      refine a_iff i_Mo_in_10 c8 ?_
      refine a_iconst i_Mo_in_13 ?_
      refine a_goto i_Mo_in_14 ?_
      exact am_wk (t_Mo_in_18 h) ⟨Or.inl rfl, Or.inl rfl, Or.inl rfl, Or.inl rfl, Or.inl rfl, Or.inl rfl, trivial⟩
theorem t_Mo_in {x0 : Int64} {x2 : Int64} {x4 : Int64} {σ σ' : am_S} {r : Int32} (h : g_Mo_in x0 x2 x4 σ = some (r, σ')) : am_Mt S_m M_Mo_in [.long x0, .long x2, .long x4] σ (fun q τ => q = some (.int r) ∧ τ = σ') :=
  am_M_of ok_Mo_in (Nat.le_of_ble_eq_true rfl) (t_Mo_in_0 h)
def g_Mo_placeIn_34 (y0 : Int32) (σ : am_S) : Option (Int32 × am_S) :=
  some (y0, σ)
set_option maxHeartbeats 4000000 in
theorem t_Mo_placeIn_34 {y0 : Int32} {σ σ' : am_S} {r : Int32} (h : g_Mo_placeIn_34 y0 σ = some (r, σ')) : am_A S_m M_Mo_placeIn (34, [none, none, none, none, none], [.int y0], σ) (am_r S_m (fun q τ => q = some (.int r) ∧ τ = σ')) := by
  unfold g_Mo_placeIn_34 at h
  exact am_ret_i ok_Mo_placeIn rfl rfl (am_lf_i h)
def g_Mo_placeIn_33 (σ : am_S) : Option (Int32 × am_S) :=
  g_Mo_placeIn_34 (-1) σ
set_option maxHeartbeats 4000000 in
theorem t_Mo_placeIn_33 {σ σ' : am_S} {r : Int32} (h : g_Mo_placeIn_33 σ = some (r, σ')) : am_A S_m M_Mo_placeIn (33, [none, none, none, none, none], [], σ) (am_r S_m (fun q τ => q = some (.int r) ∧ τ = σ')) := by
  unfold g_Mo_placeIn_33 at h
  refine a_iconst i_Mo_placeIn_33 ?_
  exact t_Mo_placeIn_34 h
def g_Mo_placeIn (x1 : Int32) (x2 : Int64) (x4 : Int32) (σ : am_S) : Option (Int32 × am_S) :=
  if (lg_cmp x2 0) < 0 then
    g_Mo_placeIn_33 σ
  else
    am_gd (inb x1 10) <|
    if 0 < (lg_cmp x2 (((σ.2.1 4 x1.toNatClampNeg) - x4).toInt64)) then
      g_Mo_placeIn_33 σ
    else
      am_gd (inb x1 10) <|
      g_Mo_placeIn_34 ((σ.2.1 3 x1.toNatClampNeg) + x2.toInt32) σ
set_option maxHeartbeats 4000000 in
theorem t_Mo_placeIn_0 {x1 : Int32} {x2 : Int64} {x4 : Int32} {σ σ' : am_S} {r : Int32} (h : g_Mo_placeIn x1 x2 x4 σ = some (r, σ')) : am_A S_m M_Mo_placeIn (0, [some (.ref 0), some (.int x1), some (.long x2), none, some (.int x4)], [], σ) (am_r S_m (fun q τ => q = some (.int r) ∧ τ = σ')) := by
  unfold g_Mo_placeIn at h
  refine a_lload_n i_Mo_placeIn_0 rfl ?_
  refine a_lconst i_Mo_placeIn_1 ?_
  refine a_lcmp i_Mo_placeIn_2 ?_
  by_cases c4 : (lg_cmp x2 0) < 0
  · rw [if_pos c4] at h
    refine a_ift i_Mo_placeIn_3 c4 ?_
    exact am_wk (t_Mo_placeIn_33 h) ⟨Or.inl rfl, Or.inl rfl, Or.inl rfl, Or.inl rfl, Or.inl rfl, trivial⟩
  · rw [if_neg c4] at h
    refine a_iff i_Mo_placeIn_3 c4 ?_
    refine a_lload_n i_Mo_placeIn_6 rfl ?_
    refine a_aload_n i_Mo_placeIn_7 rfl ?_
    refine a_get (v := .ref 4) i_Mo_placeIn_8 rfl rfl ?_
    refine a_iload_n i_Mo_placeIn_11 rfl ?_
    obtain ⟨c9, h⟩ := gd_some h
    refine a_ial (n := 10) i_Mo_placeIn_12 (by decide) rfl rfl (inb_in c9) ?_
    refine a_iload i_Mo_placeIn_13 rfl ?_
    refine a_isub i_Mo_placeIn_15 ?_
    refine a_i2l i_Mo_placeIn_16 ?_
    refine a_lcmp i_Mo_placeIn_17 ?_
    by_cases c14 : 0 < (lg_cmp x2 (((σ.2.1 4 x1.toNatClampNeg) - x4).toInt64))
    · rw [if_pos c14] at h
      refine a_ift i_Mo_placeIn_18 c14 ?_
      exact am_wk (t_Mo_placeIn_33 h) ⟨Or.inl rfl, Or.inl rfl, Or.inl rfl, Or.inl rfl, Or.inl rfl, trivial⟩
    · rw [if_neg c14] at h
      refine a_iff i_Mo_placeIn_18 c14 ?_
      refine a_aload_n i_Mo_placeIn_21 rfl ?_
      refine a_get (v := .ref 3) i_Mo_placeIn_22 rfl rfl ?_
      refine a_iload_n i_Mo_placeIn_25 rfl ?_
      obtain ⟨c18, h⟩ := gd_some h
      refine a_ial (n := 10) i_Mo_placeIn_26 (by decide) rfl rfl (inb_in c18) ?_
      refine a_lload_n i_Mo_placeIn_27 rfl ?_
      refine a_l2i i_Mo_placeIn_28 ?_
      refine a_iadd i_Mo_placeIn_29 ?_
      refine a_goto i_Mo_placeIn_30 ?_
      exact am_wk (t_Mo_placeIn_34 h) ⟨Or.inl rfl, Or.inl rfl, Or.inl rfl, Or.inl rfl, Or.inl rfl, trivial⟩
theorem t_Mo_placeIn {x1 : Int32} {x2 : Int64} {x4 : Int32} {σ σ' : am_S} {r : Int32} (h : g_Mo_placeIn x1 x2 x4 σ = some (r, σ')) : am_Mt S_m M_Mo_placeIn [.ref 0, .int x1, .long x2, .int x4] σ (fun q τ => q = some (.int r) ∧ τ = σ') :=
  am_M_of ok_Mo_placeIn (Nat.le_of_ble_eq_true rfl) (t_Mo_placeIn_0 h)
def g_Mo_textIn_44 (y0 : Int32) (σ : am_S) : Option (Int32 × am_S) :=
  some (y0, σ)
set_option maxHeartbeats 4000000 in
theorem t_Mo_textIn_44 {y0 : Int32} {σ σ' : am_S} {r : Int32} (h : g_Mo_textIn_44 y0 σ = some (r, σ')) : am_A S_m M_Mo_textIn (44, [none, none, none, none, none], [.int y0], σ) (am_r S_m (fun q τ => q = some (.int r) ∧ τ = σ')) := by
  unfold g_Mo_textIn_44 at h
  exact am_ret_i ok_Mo_textIn rfl rfl (am_lf_i h)
def g_Mo_textIn_43 (σ : am_S) : Option (Int32 × am_S) :=
  g_Mo_textIn_44 (-1) σ
set_option maxHeartbeats 4000000 in
theorem t_Mo_textIn_43 {σ σ' : am_S} {r : Int32} (h : g_Mo_textIn_43 σ = some (r, σ')) : am_A S_m M_Mo_textIn (43, [none, none, none, none, none], [], σ) (am_r S_m (fun q τ => q = some (.int r) ∧ τ = σ')) := by
  unfold g_Mo_textIn_43 at h
  refine a_iconst i_Mo_textIn_43 ?_
  exact t_Mo_textIn_44 h
def g_Mo_textIn (x1 : Int32) (x2 : Int64) (σ : am_S) : Option (Int32 × am_S) :=
  am_bd (g_Mo_placeIn x1 x2 (1) σ) fun v5 σ5 =>
  if v5 = (-1) then
    g_Mo_textIn_43 σ5
  else
    am_gd (inb x1 10) <|
    am_gd (inb x1 10) <|
    am_bd (g_Mo_textEnd v5 ((σ5.2.1 3 x1.toNatClampNeg) + (σ5.2.1 4 x1.toNatClampNeg)) σ5) fun v21 σ21 =>
    if v21 = (-1) then
      g_Mo_textIn_43 σ21
    else
      g_Mo_textIn_44 v5 σ21
set_option maxHeartbeats 4000000 in
theorem t_Mo_textIn_0 {x1 : Int32} {x2 : Int64} {σ σ' : am_S} {r : Int32} (h : g_Mo_textIn x1 x2 σ = some (r, σ')) : am_A S_m M_Mo_textIn (0, [some (.ref 0), some (.int x1), some (.long x2), none, none], [], σ) (am_r S_m (fun q τ => q = some (.int r) ∧ τ = σ')) := by
  unfold g_Mo_textIn at h
  refine a_aload_n i_Mo_textIn_0 rfl ?_
  refine a_iload_n i_Mo_textIn_1 rfl ?_
  refine a_lload_n i_Mo_textIn_2 rfl ?_
  refine a_iconst i_Mo_textIn_3 ?_
  obtain ⟨v5, σ5, e5, h⟩ := am_bd_some h
  refine am_cvd (rest := []) [.int x1, .long x2, .int 1] c_Mo_textIn_4 ⟨by decide, _, rfl⟩ rfl (Nat.le_of_ble_eq_true rfl) (t_Mo_placeIn e5) ?_
  refine a_istore i_Mo_textIn_7 rfl ?_
  refine a_iload i_Mo_textIn_9 rfl ?_
  refine a_iconst i_Mo_textIn_11 ?_
  by_cases c9 : v5 = (-1)
  · rw [if_pos c9] at h
    refine a_ict i_Mo_textIn_12 c9 ?_
    exact am_wk (t_Mo_textIn_43 h) ⟨Or.inl rfl, Or.inl rfl, Or.inl rfl, Or.inl rfl, Or.inl rfl, trivial⟩
  · rw [if_neg c9] at h
    refine a_icf i_Mo_textIn_12 c9 ?_
    refine a_aload_n i_Mo_textIn_15 rfl ?_
    refine a_iload i_Mo_textIn_16 rfl ?_
    refine a_aload_n i_Mo_textIn_18 rfl ?_
    refine a_get (v := .ref 3) i_Mo_textIn_19 rfl rfl ?_
    refine a_iload_n i_Mo_textIn_22 rfl ?_
    obtain ⟨c15, h⟩ := gd_some h
    refine a_ial (n := 10) i_Mo_textIn_23 (by decide) rfl rfl (inb_in c15) ?_
    refine a_aload_n i_Mo_textIn_24 rfl ?_
    refine a_get (v := .ref 4) i_Mo_textIn_25 rfl rfl ?_
    refine a_iload_n i_Mo_textIn_28 rfl ?_
    obtain ⟨c19, h⟩ := gd_some h
    refine a_ial (n := 10) i_Mo_textIn_29 (by decide) rfl rfl (inb_in c19) ?_
    refine a_iadd i_Mo_textIn_30 ?_
    obtain ⟨v21, σ21, e21, h⟩ := am_bd_some h
    refine am_cvd (rest := []) [.int v5, .int ((σ5.2.1 3 x1.toNatClampNeg) + (σ5.2.1 4 x1.toNatClampNeg))] c_Mo_textIn_31 ⟨by decide, _, rfl⟩ rfl (Nat.le_of_ble_eq_true rfl) (t_Mo_textEnd e21) ?_
    refine a_iconst i_Mo_textIn_34 ?_
    by_cases c23 : v21 = (-1)
    · rw [if_pos c23] at h
      refine a_ict i_Mo_textIn_35 c23 ?_
      exact am_wk (t_Mo_textIn_43 h) ⟨Or.inl rfl, Or.inl rfl, Or.inl rfl, Or.inl rfl, Or.inl rfl, trivial⟩
    · rw [if_neg c23] at h
      refine a_icf i_Mo_textIn_35 c23 ?_
      refine a_iload i_Mo_textIn_38 rfl ?_
      refine a_goto i_Mo_textIn_40 ?_
      exact am_wk (t_Mo_textIn_44 h) ⟨Or.inl rfl, Or.inl rfl, Or.inl rfl, Or.inl rfl, Or.inl rfl, trivial⟩
theorem t_Mo_textIn {x1 : Int32} {x2 : Int64} {σ σ' : am_S} {r : Int32} (h : g_Mo_textIn x1 x2 σ = some (r, σ')) : am_Mt S_m M_Mo_textIn [.ref 0, .int x1, .long x2] σ (fun q τ => q = some (.int r) ∧ τ = σ') :=
  am_M_of ok_Mo_textIn (Nat.le_of_ble_eq_true rfl) (t_Mo_textIn_0 h)
def g_Mo_isHead_77 (y0 : Int32) (σ : am_S) : Option (Int32 × am_S) :=
  am_gd (z01 y0) <|
  some (y0, σ)
set_option maxHeartbeats 4000000 in
theorem t_Mo_isHead_77 {y0 : Int32} {σ σ' : am_S} {r : Int32} (h : g_Mo_isHead_77 y0 σ = some (r, σ')) : am_A S_m M_Mo_isHead (77, [none], [.int y0], σ) (am_r S_m (fun q τ => q = some (.int r) ∧ τ = σ')) := by
  unfold g_Mo_isHead_77 at h
  obtain ⟨c1, h⟩ := gd_some h
  exact am_ret_z ok_Mo_isHead rfl rfl (z01_or c1) (am_lf_i h)
def g_Mo_isHead_76 (σ : am_S) : Option (Int32 × am_S) :=
  g_Mo_isHead_77 (0) σ
set_option maxHeartbeats 4000000 in
theorem t_Mo_isHead_76 {σ σ' : am_S} {r : Int32} (h : g_Mo_isHead_76 σ = some (r, σ')) : am_A S_m M_Mo_isHead (76, [none], [], σ) (am_r S_m (fun q τ => q = some (.int r) ∧ τ = σ')) := by
  unfold g_Mo_isHead_76 at h
  refine a_iconst i_Mo_isHead_76 ?_
  exact t_Mo_isHead_77 h
def g_Mo_isHead (σ : am_S) : Option (Int32 × am_S) :=
  if (σ.1.1 0 3) < 64 then
    g_Mo_isHead_76 σ
  else
    am_bd (g_Mo_peek (0) (7) σ) fun v8 σ8 =>
    if (lg_cmp v8 282584257676671) = 0 then
      am_bd (g_Mo_peek (58) (2) σ8) fun v15 σ15 =>
      if (lg_cmp v15 64) = 0 then
        am_bd (g_Mo_peek (60) (2) σ15) fun v22 σ22 =>
        am_bd (g_Mo_in v22 (1) (24) σ22) fun v25 σ25 =>
        if v25 = 0 then
          g_Mo_isHead_76 σ25
        else
          am_bd (g_Mo_peek (62) (2) σ25) fun v30 σ30 =>
          am_bd (g_Mo_peek (60) (2) σ30) fun v34 σ34 =>
          if (lg_cmp v30 v34) < 0 then
            g_Mo_isHead_77 (1) σ34
          else
            g_Mo_isHead_76 σ34
      else
        g_Mo_isHead_76 σ15
    else
      g_Mo_isHead_76 σ8
set_option maxHeartbeats 4000000 in
theorem t_Mo_isHead_0 {σ σ' : am_S} {r : Int32} (h : g_Mo_isHead σ = some (r, σ')) : am_A S_m M_Mo_isHead (0, [some (.ref 0)], [], σ) (am_r S_m (fun q τ => q = some (.int r) ∧ τ = σ')) := by
  unfold g_Mo_isHead at h
  refine a_aload_n i_Mo_isHead_0 rfl ?_
  refine a_get (v := .int (σ.1.1 0 3)) i_Mo_isHead_1 rfl rfl ?_
  refine a_bipush i_Mo_isHead_4 ?_
  by_cases c4 : (σ.1.1 0 3) < 64
  · rw [if_pos c4] at h
    refine a_ict i_Mo_isHead_6 c4 ?_
    exact am_wk (t_Mo_isHead_76 h) ⟨Or.inl rfl, trivial⟩
  · rw [if_neg c4] at h
    refine a_icf i_Mo_isHead_6 c4 ?_
    refine a_aload_n i_Mo_isHead_9 rfl ?_
    refine a_iconst i_Mo_isHead_10 ?_
    refine a_bipush i_Mo_isHead_11 ?_
    obtain ⟨v8, σ8, e8, h⟩ := am_bd_some h
    refine am_cvd (rest := []) [.int 0, .int 7] c_Mo_isHead_13 ⟨by decide, _, rfl⟩ rfl (Nat.le_of_ble_eq_true rfl) (t_Mo_peek e8) ?_
    refine a_ldc2 i_Mo_isHead_16 ?_
    refine a_lcmp i_Mo_isHead_19 ?_
    by_cases c11 : (lg_cmp v8 282584257676671) = 0
    · rw [if_pos c11] at h
      refine a_iff i_Mo_isHead_20 c11 ?_
      refine a_aload_n i_Mo_isHead_23 rfl ?_
      refine a_bipush i_Mo_isHead_24 ?_
      refine a_iconst i_Mo_isHead_26 ?_
      obtain ⟨v15, σ15, e15, h⟩ := am_bd_some h
      refine am_cvd (rest := []) [.int 58, .int 2] c_Mo_isHead_27 ⟨by decide, _, rfl⟩ rfl (Nat.le_of_ble_eq_true rfl) (t_Mo_peek e15) ?_
      refine a_ldc2 i_Mo_isHead_30 ?_
      refine a_lcmp i_Mo_isHead_33 ?_
      by_cases c18 : (lg_cmp v15 64) = 0
      · rw [if_pos c18] at h
        refine a_iff i_Mo_isHead_34 c18 ?_
        refine a_aload_n i_Mo_isHead_37 rfl ?_
        refine a_bipush i_Mo_isHead_38 ?_
        refine a_iconst i_Mo_isHead_40 ?_
        obtain ⟨v22, σ22, e22, h⟩ := am_bd_some h
        refine am_cvd (rest := []) [.int 60, .int 2] c_Mo_isHead_41 ⟨by decide, _, rfl⟩ rfl (Nat.le_of_ble_eq_true rfl) (t_Mo_peek e22) ?_
        refine a_lconst i_Mo_isHead_44 ?_
        refine a_ldc2 i_Mo_isHead_45 ?_
        obtain ⟨v25, σ25, e25, h⟩ := am_bd_some h
        refine am_csd (rest := []) [.long v22, .long 1, .long 24] c_Mo_isHead_48 rfl (Nat.le_of_ble_eq_true rfl) (t_Mo_in e25) ?_
        by_cases c26 : v25 = 0
        · rw [if_pos c26] at h
          refine a_ift i_Mo_isHead_51 c26 ?_
          exact am_wk (t_Mo_isHead_76 h) ⟨Or.inl rfl, trivial⟩
        · rw [if_neg c26] at h
          refine a_iff i_Mo_isHead_51 c26 ?_
          refine a_aload_n i_Mo_isHead_54 rfl ?_
          refine a_bipush i_Mo_isHead_55 ?_
          refine a_iconst i_Mo_isHead_57 ?_
          obtain ⟨v30, σ30, e30, h⟩ := am_bd_some h
          refine am_cvd (rest := []) [.int 62, .int 2] c_Mo_isHead_58 ⟨by decide, _, rfl⟩ rfl (Nat.le_of_ble_eq_true rfl) (t_Mo_peek e30) ?_
          refine a_aload_n i_Mo_isHead_61 rfl ?_
          refine a_bipush i_Mo_isHead_62 ?_
          refine a_iconst i_Mo_isHead_64 ?_
          obtain ⟨v34, σ34, e34, h⟩ := am_bd_some h
          refine am_cvd (rest := [.long v30]) [.int 60, .int 2] c_Mo_isHead_65 ⟨by decide, _, rfl⟩ rfl (Nat.le_of_ble_eq_true rfl) (t_Mo_peek e34) ?_
          refine a_lcmp i_Mo_isHead_68 ?_
          by_cases c36 : (lg_cmp v30 v34) < 0
          · rw [if_pos c36] at h
            refine a_iff i_Mo_isHead_69 (Int32.not_le.mpr c36) ?_
            refine a_iconst i_Mo_isHead_72 ?_
            refine a_goto i_Mo_isHead_73 ?_
            exact am_wk (t_Mo_isHead_77 h) ⟨Or.inl rfl, trivial⟩
          · rw [if_neg c36] at h
            refine a_ift i_Mo_isHead_69 (Int32.not_lt.mp c36) ?_
            exact am_wk (t_Mo_isHead_76 h) ⟨Or.inl rfl, trivial⟩
      · rw [if_neg c18] at h
        refine a_ift i_Mo_isHead_34 c18 ?_
        exact am_wk (t_Mo_isHead_76 h) ⟨Or.inl rfl, trivial⟩
    · rw [if_neg c11] at h
      refine a_ift i_Mo_isHead_20 c11 ?_
      exact am_wk (t_Mo_isHead_76 h) ⟨Or.inl rfl, trivial⟩
theorem t_Mo_isHead {σ σ' : am_S} {r : Int32} (h : g_Mo_isHead σ = some (r, σ')) : am_Mt S_m M_Mo_isHead [.ref 0] σ (fun q τ => q = some (.int r) ∧ τ = σ') :=
  am_M_of ok_Mo_isHead (Nat.le_of_ble_eq_true rfl) (t_Mo_isHead_0 h)
def g_Mo_isName_63 (go : Int32 → Int32 → Int32 → Int32 → am_S → Option (Int32 × am_S)) (x1 : Int32) (x2 : Int32) (x3 : Int32) (x4 : Int32) (y0 : Int32) (y1 : Int32) (σ : am_S) : Option (Int32 × am_S) :=
  if y1 = y0 then
    go x1 x2 x3 (x4 + 1) σ
  else
    some (0, σ)
set_option maxHeartbeats 4000000 in
theorem t_Mo_isName_63 {x1 : Int32} {x2 : Int32} {x3 : Int32} {x4 : Int32} {y0 : Int32} {y1 : Int32} {σ σ' : am_S} {r : Int32} {go : Int32 → Int32 → Int32 → Int32 → am_S → Option (Int32 × am_S)} (hgo : ∀ {x1 : Int32} {x2 : Int32} {x3 : Int32} {x4 : Int32} {σ σ' : am_S} {r : Int32}, go x1 x2 x3 x4 σ = some (r, σ') → am_A S_m M_Mo_isName (3, [some (.ref 0), some (.int x1), some (.int x2), some (.int x3), some (.int x4), none], [], σ) (am_r S_m (fun q τ => q = some (.int r) ∧ τ = σ'))) (h : g_Mo_isName_63 go x1 x2 x3 x4 y0 y1 σ = some (r, σ')) : am_A S_m M_Mo_isName (63, [some (.ref 0), some (.int x1), some (.int x2), some (.int x3), some (.int x4), none], [.int y0, .int y1], σ) (am_r S_m (fun q τ => q = some (.int r) ∧ τ = σ')) := by
  unfold g_Mo_isName_63 at h
  by_cases c1 : y1 = y0
  · rw [if_pos c1] at h
    refine a_ict i_Mo_isName_63 c1 ?_
    refine a_iinc i_Mo_isName_68 rfl rfl ?_
    refine a_goto i_Mo_isName_71 ?_
    exact hgo h
  · rw [if_neg c1] at h
    refine a_icf i_Mo_isName_63 c1 ?_
    refine a_iconst i_Mo_isName_66 ?_
    exact am_ret_z ok_Mo_isName rfl rfl (Or.inl rfl) (am_lf_i h)
def g_Mo_isName_87 (y0 : Int32) (σ : am_S) : Option (Int32 × am_S) :=
  am_gd (z01 y0) <|
  some (y0, σ)
set_option maxHeartbeats 4000000 in
theorem t_Mo_isName_87 {y0 : Int32} {σ σ' : am_S} {r : Int32} (h : g_Mo_isName_87 y0 σ = some (r, σ')) : am_A S_m M_Mo_isName (87, [none, none, none, none, none, none], [.int y0], σ) (am_r S_m (fun q τ => q = some (.int r) ∧ τ = σ')) := by
  unfold g_Mo_isName_87 at h
  obtain ⟨c1, h⟩ := gd_some h
  exact am_ret_z ok_Mo_isName rfl rfl (z01_or c1) (am_lf_i h)
def g_Mo_isName_3 : Nat → Int32 → Int32 → Int32 → Int32 → am_S → Option (Int32 × am_S)
  | 0, _, _, _, _, _ => none
  | n + 1, x1, x2, x3, x4, σ =>
  if x4 < 24 then
    am_gd (decide (¬ 8 = 0)) <|
    am_gd (inb ((3 * x3) + (x4 / 8)) 30) <|
    am_gd (decide (¬ 8 = 0)) <|
    if (x1 + x4) < x2 then
      am_gd (inb (x1 + x4) 3000) <|
      g_Mo_isName_63 (g_Mo_isName_3 n) x1 x2 x3 x4 (σ.2.1 2 (x1 + x4).toNatClampNeg) ((((σ.2.2 1 ((3 * x3) + (x4 / 8)).toNatClampNeg) >>> ((8 * (x4 - x4 / 8 * 8)).toInt64 &&& 63)) &&& 255).toInt32) σ
    else
      g_Mo_isName_63 (g_Mo_isName_3 n) x1 x2 x3 x4 (0) ((((σ.2.2 1 ((3 * x3) + (x4 / 8)).toNatClampNeg) >>> ((8 * (x4 - x4 / 8 * 8)).toInt64 &&& 63)) &&& 255).toInt32) σ
  else
    if (x2 - x1) < 24 then
      g_Mo_isName_87 (1) σ
    else
      g_Mo_isName_87 (0) σ
set_option maxHeartbeats 4000000 in
theorem t_Mo_isName_3 : ∀ (n : Nat) {x1 : Int32} {x2 : Int32} {x3 : Int32} {x4 : Int32} {σ σ' : am_S} {r : Int32} (h : g_Mo_isName_3 n x1 x2 x3 x4 σ = some (r, σ')), am_A S_m M_Mo_isName (3, [some (.ref 0), some (.int x1), some (.int x2), some (.int x3), some (.int x4), none], [], σ) (am_r S_m (fun q τ => q = some (.int r) ∧ τ = σ')) := by
  intro n
  induction n with
  | zero =>
    intro x1 x2 x3 x4 σ σ' r h
    cases h
  | succ n ih =>
  intro x1 x2 x3 x4 σ σ' r h
  unfold g_Mo_isName_3 at h
  refine a_iload i_Mo_isName_3 rfl ?_
  refine a_bipush i_Mo_isName_5 ?_
  by_cases c3 : x4 < 24
  · rw [if_pos c3] at h
    refine a_icf i_Mo_isName_7 (Int32.not_le.mpr c3) ?_
    refine a_aload_n i_Mo_isName_10 rfl ?_
    refine a_get (v := .ref 1) i_Mo_isName_11 rfl rfl ?_
    refine a_iconst i_Mo_isName_14 ?_
    refine a_iload_n i_Mo_isName_15 rfl ?_
    refine a_imul i_Mo_isName_16 ?_
    refine a_iload i_Mo_isName_17 rfl ?_
    refine a_bipush i_Mo_isName_19 ?_
    obtain ⟨c11, h⟩ := gd_some h
    refine a_idiv i_Mo_isName_21 (of_decide_eq_true c11) ?_
    refine a_iadd i_Mo_isName_22 ?_
    obtain ⟨c13, h⟩ := gd_some h
    refine a_lal (n := 30) i_Mo_isName_23 rfl rfl (inb_in c13) ?_
    refine a_bipush i_Mo_isName_24 ?_
    refine a_iload i_Mo_isName_26 rfl ?_
    refine a_bipush i_Mo_isName_28 ?_
    obtain ⟨c17, h⟩ := gd_some h
    refine a_irem i_Mo_isName_30 (of_decide_eq_true c17) ?_
    refine a_imul i_Mo_isName_31 ?_
    refine a_lshr i_Mo_isName_32 ?_
    refine a_ldc2 i_Mo_isName_33 ?_
    refine a_land i_Mo_isName_36 ?_
    refine a_l2i i_Mo_isName_37 ?_
    refine a_istore i_Mo_isName_38 rfl ?_
    refine a_iload i_Mo_isName_40 rfl ?_
    refine a_iload_n i_Mo_isName_42 rfl ?_
    refine a_iload i_Mo_isName_43 rfl ?_
    refine a_iadd i_Mo_isName_45 ?_
    refine a_iload_n i_Mo_isName_46 rfl ?_
    by_cases c29 : (x1 + x4) < x2
    · rw [if_pos c29] at h
      refine a_icf i_Mo_isName_47 (Int32.not_le.mpr c29) ?_
      refine a_aload_n i_Mo_isName_50 rfl ?_
      refine a_get (v := .ref 2) i_Mo_isName_51 rfl rfl ?_
      refine a_iload_n i_Mo_isName_54 rfl ?_
      refine a_iload i_Mo_isName_55 rfl ?_
      refine a_iadd i_Mo_isName_57 ?_
      obtain ⟨c35, h⟩ := gd_some h
      refine a_bal (n := 3000) i_Mo_isName_58 rfl rfl (inb_in c35) ?_
      refine a_goto i_Mo_isName_59 ?_
      exact am_wk (t_Mo_isName_63 (fun h => ih h) h) ⟨Or.inr rfl, Or.inr rfl, Or.inr rfl, Or.inr rfl, Or.inr rfl, Or.inl rfl, trivial⟩
    · rw [if_neg c29] at h
      refine a_ict i_Mo_isName_47 (Int32.not_lt.mp c29) ?_
      refine a_iconst i_Mo_isName_62 ?_
      exact am_wk (t_Mo_isName_63 (fun h => ih h) h) ⟨Or.inr rfl, Or.inr rfl, Or.inr rfl, Or.inr rfl, Or.inr rfl, Or.inl rfl, trivial⟩
  · rw [if_neg c3] at h
    refine a_ict i_Mo_isName_7 (Int32.not_lt.mp c3) ?_
    refine a_iload_n i_Mo_isName_74 rfl ?_
    refine a_iload_n i_Mo_isName_75 rfl ?_
    refine a_isub i_Mo_isName_76 ?_
    refine a_bipush i_Mo_isName_77 ?_
    by_cases c8 : (x2 - x1) < 24
    · rw [if_pos c8] at h
      refine a_icf i_Mo_isName_79 (Int32.not_le.mpr c8) ?_
      refine a_iconst i_Mo_isName_82 ?_
      refine a_goto i_Mo_isName_83 ?_
      exact am_wk (t_Mo_isName_87 h) ⟨Or.inl rfl, Or.inl rfl, Or.inl rfl, Or.inl rfl, Or.inl rfl, Or.inl rfl, trivial⟩
    · rw [if_neg c8] at h
      refine a_ict i_Mo_isName_79 (Int32.not_lt.mp c8) ?_
      refine a_iconst i_Mo_isName_86 ?_
      exact am_wk (t_Mo_isName_87 h) ⟨Or.inl rfl, Or.inl rfl, Or.inl rfl, Or.inl rfl, Or.inl rfl, Or.inl rfl, trivial⟩
def g_Mo_isName (x1 : Int32) (x2 : Int32) (x3 : Int32) (σ : am_S) : Option (Int32 × am_S) :=
  g_Mo_isName_3 4000 x1 x2 x3 (0) σ
set_option maxHeartbeats 4000000 in
theorem t_Mo_isName_0 {x1 : Int32} {x2 : Int32} {x3 : Int32} {σ σ' : am_S} {r : Int32} (h : g_Mo_isName x1 x2 x3 σ = some (r, σ')) : am_A S_m M_Mo_isName (0, [some (.ref 0), some (.int x1), some (.int x2), some (.int x3), none, none], [], σ) (am_r S_m (fun q τ => q = some (.int r) ∧ τ = σ')) := by
  unfold g_Mo_isName at h
  refine a_iconst i_Mo_isName_0 ?_
  refine a_istore i_Mo_isName_1 rfl ?_
  exact t_Mo_isName_3 4000 h
theorem t_Mo_isName {x1 : Int32} {x2 : Int32} {x3 : Int32} {σ σ' : am_S} {r : Int32} (h : g_Mo_isName x1 x2 x3 σ = some (r, σ')) : am_Mt S_m M_Mo_isName [.ref 0, .int x1, .int x2, .int x3] σ (fun q τ => q = some (.int r) ∧ τ = σ') :=
  am_M_of ok_Mo_isName (Nat.le_of_ble_eq_true rfl) (t_Mo_isName_0 h)
def g_Mo_lies_72 (y0 : Int32) (σ : am_S) : Option (Int32 × am_S) :=
  am_gd (z01 y0) <|
  some (y0, σ)
set_option maxHeartbeats 4000000 in
theorem t_Mo_lies_72 {y0 : Int32} {σ σ' : am_S} {r : Int32} (h : g_Mo_lies_72 y0 σ = some (r, σ')) : am_A S_m M_Mo_lies (72, [none, none, none, none, none, none], [.int y0], σ) (am_r S_m (fun q τ => q = some (.int r) ∧ τ = σ')) := by
  unfold g_Mo_lies_72 at h
  obtain ⟨c1, h⟩ := gd_some h
  exact am_ret_z ok_Mo_lies rfl rfl (z01_or c1) (am_lf_i h)
def g_Mo_lies_67 (σ : am_S) : Option (Int32 × am_S) :=
  g_Mo_lies_72 (1) σ
set_option maxHeartbeats 4000000 in
theorem t_Mo_lies_67 {σ σ' : am_S} {r : Int32} (h : g_Mo_lies_67 σ = some (r, σ')) : am_A S_m M_Mo_lies (67, [none, none, none, none, none, none], [], σ) (am_r S_m (fun q τ => q = some (.int r) ∧ τ = σ')) := by
  unfold g_Mo_lies_67 at h
  refine a_iconst i_Mo_lies_67 ?_
  refine a_goto i_Mo_lies_68 ?_
  exact t_Mo_lies_72 h
def g_Mo_lies_71 (σ : am_S) : Option (Int32 × am_S) :=
  g_Mo_lies_72 (0) σ
set_option maxHeartbeats 4000000 in
theorem t_Mo_lies_71 {σ σ' : am_S} {r : Int32} (h : g_Mo_lies_71 σ = some (r, σ')) : am_A S_m M_Mo_lies (71, [none, none, none, none, none, none], [], σ) (am_r S_m (fun q τ => q = some (.int r) ∧ τ = σ')) := by
  unfold g_Mo_lies_71 at h
  refine a_iconst i_Mo_lies_71 ?_
  exact t_Mo_lies_72 h
def g_Mo_lies (x1 : Int32) (σ : am_S) : Option (Int32 × am_S) :=
  am_bd (g_Mo_peek (x1 + 24) (8) σ) fun v6 σ6 =>
  am_bd (g_Mo_peek (x1 + 32) (8) σ6) fun v13 σ13 =>
  am_bd (g_Mo_peek (x1 + 4) (4) σ13) fun v20 σ20 =>
  if (lg_cmp v20 8) = 0 then
    g_Mo_lies_67 σ20
  else
    am_bd (g_Mo_in v6 (0) ((σ20.1.1 0 3).toInt64) σ20) fun v29 σ29 =>
    if v29 = 0 then
      g_Mo_lies_71 σ29
    else
      am_bd (g_Mo_in v13 (0) (((σ29.1.1 0 3).toInt64) - v6) σ29) fun v38 σ38 =>
      if v38 = 0 then
        g_Mo_lies_71 σ38
      else
        g_Mo_lies_67 σ38
set_option maxHeartbeats 4000000 in
theorem t_Mo_lies_0 {x1 : Int32} {σ σ' : am_S} {r : Int32} (h : g_Mo_lies x1 σ = some (r, σ')) : am_A S_m M_Mo_lies (0, [some (.ref 0), some (.int x1), none, none, none, none], [], σ) (am_r S_m (fun q τ => q = some (.int r) ∧ τ = σ')) := by
  unfold g_Mo_lies at h
  refine a_aload_n i_Mo_lies_0 rfl ?_
  refine a_iload_n i_Mo_lies_1 rfl ?_
  refine a_bipush i_Mo_lies_2 ?_
  refine a_iadd i_Mo_lies_4 ?_
  refine a_bipush i_Mo_lies_5 ?_
  obtain ⟨v6, σ6, e6, h⟩ := am_bd_some h
  refine am_cvd (rest := []) [.int (x1 + 24), .int 8] c_Mo_lies_7 ⟨by decide, _, rfl⟩ rfl (Nat.le_of_ble_eq_true rfl) (t_Mo_peek e6) ?_
  refine a_lstore_n i_Mo_lies_10 rfl ?_
  refine a_aload_n i_Mo_lies_11 rfl ?_
  refine a_iload_n i_Mo_lies_12 rfl ?_
  refine a_bipush i_Mo_lies_13 ?_
  refine a_iadd i_Mo_lies_15 ?_
  refine a_bipush i_Mo_lies_16 ?_
  obtain ⟨v13, σ13, e13, h⟩ := am_bd_some h
  refine am_cvd (rest := []) [.int (x1 + 32), .int 8] c_Mo_lies_18 ⟨by decide, _, rfl⟩ rfl (Nat.le_of_ble_eq_true rfl) (t_Mo_peek e13) ?_
  refine a_lstore i_Mo_lies_21 rfl ?_
  refine a_aload_n i_Mo_lies_23 rfl ?_
  refine a_iload_n i_Mo_lies_24 rfl ?_
  refine a_iconst i_Mo_lies_25 ?_
  refine a_iadd i_Mo_lies_26 ?_
  refine a_iconst i_Mo_lies_27 ?_
  obtain ⟨v20, σ20, e20, h⟩ := am_bd_some h
  refine am_cvd (rest := []) [.int (x1 + 4), .int 4] c_Mo_lies_28 ⟨by decide, _, rfl⟩ rfl (Nat.le_of_ble_eq_true rfl) (t_Mo_peek e20) ?_
  refine a_ldc2 i_Mo_lies_31 ?_
  refine a_lcmp i_Mo_lies_34 ?_
  by_cases c23 : (lg_cmp v20 8) = 0
  · rw [if_pos c23] at h
    refine a_ift i_Mo_lies_35 c23 ?_
    exact am_wk (t_Mo_lies_67 h) ⟨Or.inl rfl, Or.inl rfl, Or.inl rfl, Or.inl rfl, Or.inl rfl, Or.inl rfl, trivial⟩
  · rw [if_neg c23] at h
    refine a_iff i_Mo_lies_35 c23 ?_
    refine a_lload_n i_Mo_lies_38 rfl ?_
    refine a_lconst i_Mo_lies_39 ?_
    refine a_aload_n i_Mo_lies_40 rfl ?_
    refine a_get (v := .int (σ20.1.1 0 3)) i_Mo_lies_41 rfl rfl ?_
    refine a_i2l i_Mo_lies_44 ?_
    obtain ⟨v29, σ29, e29, h⟩ := am_bd_some h
    refine am_csd (rest := []) [.long v6, .long 0, .long ((σ20.1.1 0 3).toInt64)] c_Mo_lies_45 rfl (Nat.le_of_ble_eq_true rfl) (t_Mo_in e29) ?_
    by_cases c30 : v29 = 0
    · rw [if_pos c30] at h
      refine a_ift i_Mo_lies_48 c30 ?_
      exact am_wk (t_Mo_lies_71 h) ⟨Or.inl rfl, Or.inl rfl, Or.inl rfl, Or.inl rfl, Or.inl rfl, Or.inl rfl, trivial⟩
    · rw [if_neg c30] at h
      refine a_iff i_Mo_lies_48 c30 ?_
      refine a_lload i_Mo_lies_51 rfl ?_
      refine a_lconst i_Mo_lies_53 ?_
      refine a_aload_n i_Mo_lies_54 rfl ?_
      refine a_get (v := .int (σ29.1.1 0 3)) i_Mo_lies_55 rfl rfl ?_
      refine a_i2l i_Mo_lies_58 ?_
      refine a_lload_n i_Mo_lies_59 rfl ?_
      refine a_lsub i_Mo_lies_60 ?_
      obtain ⟨v38, σ38, e38, h⟩ := am_bd_some h
      refine am_csd (rest := []) [.long v13, .long 0, .long (((σ29.1.1 0 3).toInt64) - v6)] c_Mo_lies_61 rfl (Nat.le_of_ble_eq_true rfl) (t_Mo_in e38) ?_
      by_cases c39 : v38 = 0
      · rw [if_pos c39] at h
        refine a_ift i_Mo_lies_64 c39 ?_
        exact am_wk (t_Mo_lies_71 h) ⟨Or.inl rfl, Or.inl rfl, Or.inl rfl, Or.inl rfl, Or.inl rfl, Or.inl rfl, trivial⟩
      · rw [if_neg c39] at h
        refine a_iff i_Mo_lies_64 c39 ?_
        exact am_wk (t_Mo_lies_67 h) ⟨Or.inl rfl, Or.inl rfl, Or.inl rfl, Or.inl rfl, Or.inl rfl, Or.inl rfl, trivial⟩
theorem t_Mo_lies {x1 : Int32} {σ σ' : am_S} {r : Int32} (h : g_Mo_lies x1 σ = some (r, σ')) : am_Mt S_m M_Mo_lies [.ref 0, .int x1] σ (fun q τ => q = some (.int r) ∧ τ = σ') :=
  am_M_of ok_Mo_lies (Nat.le_of_ble_eq_true rfl) (t_Mo_lies_0 h)
def g_Mo_names_159 (go : Int32 → Int32 → Int32 → Int32 → am_S → Option (Int32 × am_S)) (x1 : Int32) (x6 : Int32) (x7 : Int32) (x8 : Int32) (σ : am_S) : Option (Int32 × am_S) :=
  go x1 x6 x7 (x8 + 1) σ
set_option maxHeartbeats 4000000 in
theorem t_Mo_names_159 {x1 : Int32} {x6 : Int32} {x7 : Int32} {x8 : Int32} {σ σ' : am_S} {r : Int32} {go : Int32 → Int32 → Int32 → Int32 → am_S → Option (Int32 × am_S)} (hgo : ∀ {x1 : Int32} {x6 : Int32} {x7 : Int32} {x8 : Int32} {σ σ' : am_S} {r : Int32}, go x1 x6 x7 x8 σ = some (r, σ') → am_A S_m M_Mo_names (39, [some (.ref 0), some (.int x1), none, none, none, none, some (.int x6), some (.int x7), some (.int x8), none], [], σ) (am_r S_m (fun q τ => q = some (.int r) ∧ τ = σ'))) (h : g_Mo_names_159 go x1 x6 x7 x8 σ = some (r, σ')) : am_A S_m M_Mo_names (159, [some (.ref 0), some (.int x1), none, none, none, none, some (.int x6), some (.int x7), some (.int x8), none], [], σ) (am_r S_m (fun q τ => q = some (.int r) ∧ τ = σ')) := by
  unfold g_Mo_names_159 at h
  refine a_iinc i_Mo_names_159 rfl rfl ?_
  refine a_goto i_Mo_names_162 ?_
  exact hgo h
def g_Mo_names_158 (go : Int32 → Int32 → Int32 → Int32 → am_S → Option (Int32 × am_S)) (x1 : Int32) (x6 : Int32) (x7 : Int32) (x8 : Int32) (y0 : Int32) (y1 : Int32) (σ : am_S) : Option (Int32 × am_S) :=
  am_gd (inb y1 10) <|
  g_Mo_names_159 go x1 x6 x7 x8 (am_ai σ 4 y1.toNatClampNeg y0)
set_option maxHeartbeats 4000000 in
theorem t_Mo_names_158 {x1 : Int32} {x6 : Int32} {x7 : Int32} {x8 : Int32} {y0 : Int32} {y1 : Int32} {σ σ' : am_S} {r : Int32} {go : Int32 → Int32 → Int32 → Int32 → am_S → Option (Int32 × am_S)} (hgo : ∀ {x1 : Int32} {x6 : Int32} {x7 : Int32} {x8 : Int32} {σ σ' : am_S} {r : Int32}, go x1 x6 x7 x8 σ = some (r, σ') → am_A S_m M_Mo_names (39, [some (.ref 0), some (.int x1), none, none, none, none, some (.int x6), some (.int x7), some (.int x8), none], [], σ) (am_r S_m (fun q τ => q = some (.int r) ∧ τ = σ'))) (h : g_Mo_names_158 go x1 x6 x7 x8 y0 y1 σ = some (r, σ')) : am_A S_m M_Mo_names (158, [some (.ref 0), some (.int x1), none, none, none, none, some (.int x6), some (.int x7), some (.int x8), none], [.int y0, .int y1, .ref 4], σ) (am_r S_m (fun q τ => q = some (.int r) ∧ τ = σ')) := by
  unfold g_Mo_names_158 at h
  obtain ⟨c1, h⟩ := gd_some h
  refine a_ias (n := 10) i_Mo_names_158 rfl rfl (inb_in c1) ?_
  exact t_Mo_names_159 hgo h
def g_Mo_names_131 (go : Int32 → Int32 → Int32 → Int32 → am_S → Option (Int32 × am_S)) (x1 : Int32) (x6 : Int32) (x7 : Int32) (x8 : Int32) (x9 : Int32) (y0 : Int32) (y1 : Int32) (σ : am_S) : Option (Int32 × am_S) :=
  am_gd (inb y1 10) <|
  if x9 = 0 then
    am_bd (g_Mo_peek (x1 + 32) (8) (am_ai σ 3 y1.toNatClampNeg y0)) fun v12 σ12 =>
    g_Mo_names_158 go x1 x6 x7 x8 v12.toInt32 x8 σ12
  else
    g_Mo_names_158 go x1 x6 x7 x8 (0) x8 (am_ai σ 3 y1.toNatClampNeg y0)
set_option maxHeartbeats 4000000 in
theorem t_Mo_names_131 {x1 : Int32} {x6 : Int32} {x7 : Int32} {x8 : Int32} {x9 : Int32} {y0 : Int32} {y1 : Int32} {σ σ' : am_S} {r : Int32} {go : Int32 → Int32 → Int32 → Int32 → am_S → Option (Int32 × am_S)} (hgo : ∀ {x1 : Int32} {x6 : Int32} {x7 : Int32} {x8 : Int32} {σ σ' : am_S} {r : Int32}, go x1 x6 x7 x8 σ = some (r, σ') → am_A S_m M_Mo_names (39, [some (.ref 0), some (.int x1), none, none, none, none, some (.int x6), some (.int x7), some (.int x8), none], [], σ) (am_r S_m (fun q τ => q = some (.int r) ∧ τ = σ'))) (h : g_Mo_names_131 go x1 x6 x7 x8 x9 y0 y1 σ = some (r, σ')) : am_A S_m M_Mo_names (131, [some (.ref 0), some (.int x1), none, none, none, none, some (.int x6), some (.int x7), some (.int x8), some (.int x9)], [.int y0, .int y1, .ref 3], σ) (am_r S_m (fun q τ => q = some (.int r) ∧ τ = σ')) := by
  unfold g_Mo_names_131 at h
  obtain ⟨c1, h⟩ := gd_some h
  refine a_ias (n := 10) i_Mo_names_131 rfl rfl (inb_in c1) ?_
  refine a_aload_n i_Mo_names_132 rfl ?_
  refine a_get (v := .ref 4) i_Mo_names_133 rfl rfl ?_
  refine a_iload i_Mo_names_136 rfl ?_
  refine a_iload i_Mo_names_138 rfl ?_
  by_cases c6 : x9 = 0
  · rw [if_pos c6] at h
    refine a_ift i_Mo_names_140 c6 ?_
    refine a_aload_n i_Mo_names_147 rfl ?_
    refine a_iload_n i_Mo_names_148 rfl ?_
    refine a_bipush i_Mo_names_149 ?_
    refine a_iadd i_Mo_names_151 ?_
    refine a_bipush i_Mo_names_152 ?_
    obtain ⟨v12, σ12, e12, h⟩ := am_bd_some h
    refine am_cvd (rest := [.int x8, .ref 4]) [.int (x1 + 32), .int 8] c_Mo_names_154 ⟨by decide, _, rfl⟩ rfl (Nat.le_of_ble_eq_true rfl) (t_Mo_peek e12) ?_
    refine a_l2i i_Mo_names_157 ?_
    exact am_wk (t_Mo_names_158 hgo h) ⟨Or.inr rfl, Or.inr rfl, Or.inl rfl, Or.inl rfl, Or.inl rfl, Or.inl rfl, Or.inr rfl, Or.inr rfl, Or.inr rfl, Or.inl rfl, trivial⟩
  · rw [if_neg c6] at h
    refine a_iff i_Mo_names_140 c6 ?_
    refine a_iconst i_Mo_names_143 ?_
    refine a_goto i_Mo_names_144 ?_
    exact am_wk (t_Mo_names_158 hgo h) ⟨Or.inr rfl, Or.inr rfl, Or.inl rfl, Or.inl rfl, Or.inl rfl, Or.inl rfl, Or.inr rfl, Or.inr rfl, Or.inr rfl, Or.inl rfl, trivial⟩
def g_Mo_names_95 (go : Int32 → Int32 → Int32 → Int32 → am_S → Option (Int32 × am_S)) (x1 : Int32) (x6 : Int32) (x7 : Int32) (x8 : Int32) (y0 : Int32) (σ : am_S) : Option (Int32 × am_S) :=
  am_gd (inb x8 10) <|
  if y0 = 0 then
    am_bd (g_Mo_peek (x1 + 24) (8) (am_ai σ 5 x8.toNatClampNeg (vp_nar .boolean 1))) fun v17 σ17 =>
    g_Mo_names_131 go x1 x6 x7 x8 y0 v17.toInt32 x8 σ17
  else
    g_Mo_names_131 go x1 x6 x7 x8 y0 (0) x8 (am_ai σ 5 x8.toNatClampNeg (vp_nar .boolean 1))
set_option maxHeartbeats 4000000 in
theorem t_Mo_names_95 {x1 : Int32} {x6 : Int32} {x7 : Int32} {x8 : Int32} {y0 : Int32} {σ σ' : am_S} {r : Int32} {go : Int32 → Int32 → Int32 → Int32 → am_S → Option (Int32 × am_S)} (hgo : ∀ {x1 : Int32} {x6 : Int32} {x7 : Int32} {x8 : Int32} {σ σ' : am_S} {r : Int32}, go x1 x6 x7 x8 σ = some (r, σ') → am_A S_m M_Mo_names (39, [some (.ref 0), some (.int x1), none, none, none, none, some (.int x6), some (.int x7), some (.int x8), none], [], σ) (am_r S_m (fun q τ => q = some (.int r) ∧ τ = σ'))) (h : g_Mo_names_95 go x1 x6 x7 x8 y0 σ = some (r, σ')) : am_A S_m M_Mo_names (95, [some (.ref 0), some (.int x1), none, none, none, none, some (.int x6), some (.int x7), some (.int x8), none], [.int y0], σ) (am_r S_m (fun q τ => q = some (.int r) ∧ τ = σ')) := by
  unfold g_Mo_names_95 at h
  refine a_istore i_Mo_names_95 rfl ?_
  refine a_aload_n i_Mo_names_97 rfl ?_
  refine a_get (v := .ref 5) i_Mo_names_98 rfl rfl ?_
  refine a_iload i_Mo_names_101 rfl ?_
  refine a_iconst i_Mo_names_103 ?_
  obtain ⟨c6, h⟩ := gd_some h
  refine a_bas (n := 10) i_Mo_names_104 rfl rfl (inb_in c6) ?_
  refine a_aload_n i_Mo_names_105 rfl ?_
  refine a_get (v := .ref 3) i_Mo_names_106 rfl rfl ?_
  refine a_iload i_Mo_names_109 rfl ?_
  refine a_iload i_Mo_names_111 rfl ?_
  by_cases c11 : y0 = 0
  · rw [if_pos c11] at h
    refine a_ift i_Mo_names_113 c11 ?_
    refine a_aload_n i_Mo_names_120 rfl ?_
    refine a_iload_n i_Mo_names_121 rfl ?_
    refine a_bipush i_Mo_names_122 ?_
    refine a_iadd i_Mo_names_124 ?_
    refine a_bipush i_Mo_names_125 ?_
    obtain ⟨v17, σ17, e17, h⟩ := am_bd_some h
    refine am_cvd (rest := [.int x8, .ref 3]) [.int (x1 + 24), .int 8] c_Mo_names_127 ⟨by decide, _, rfl⟩ rfl (Nat.le_of_ble_eq_true rfl) (t_Mo_peek e17) ?_
    refine a_l2i i_Mo_names_130 ?_
    exact t_Mo_names_131 hgo h
  · rw [if_neg c11] at h
    refine a_iff i_Mo_names_113 c11 ?_
    refine a_iconst i_Mo_names_116 ?_
    refine a_goto i_Mo_names_117 ?_
    exact t_Mo_names_131 hgo h
def g_Mo_names_176 (y0 : Int32) (σ : am_S) : Option (Int32 × am_S) :=
  am_gd (z01 y0) <|
  some (y0, σ)
set_option maxHeartbeats 4000000 in
theorem t_Mo_names_176 {y0 : Int32} {σ σ' : am_S} {r : Int32} (h : g_Mo_names_176 y0 σ = some (r, σ')) : am_A S_m M_Mo_names (176, [none, none, none, none, none, none, none, none, none, none], [.int y0], σ) (am_r S_m (fun q τ => q = some (.int r) ∧ τ = σ')) := by
  unfold g_Mo_names_176 at h
  obtain ⟨c1, h⟩ := gd_some h
  exact am_ret_z ok_Mo_names rfl rfl (z01_or c1) (am_lf_i h)
def g_Mo_names_165 (x7 : Int32) (σ : am_S) : Option (Int32 × am_S) :=
  if x7 = (-1) then
    g_Mo_names_176 (0) σ
  else
    g_Mo_names_176 (1) σ
set_option maxHeartbeats 4000000 in
theorem t_Mo_names_165 {x7 : Int32} {σ σ' : am_S} {r : Int32} (h : g_Mo_names_165 x7 σ = some (r, σ')) : am_A S_m M_Mo_names (165, [none, none, none, none, none, none, none, some (.int x7), none, none], [], σ) (am_r S_m (fun q τ => q = some (.int r) ∧ τ = σ')) := by
  unfold g_Mo_names_165 at h
  refine a_iload i_Mo_names_165 rfl ?_
  refine a_iconst i_Mo_names_167 ?_
  by_cases c3 : x7 = (-1)
  · rw [if_pos c3] at h
    refine a_ict i_Mo_names_168 c3 ?_
    refine a_iconst i_Mo_names_175 ?_
    exact am_wk (t_Mo_names_176 h) ⟨Or.inl rfl, Or.inl rfl, Or.inl rfl, Or.inl rfl, Or.inl rfl, Or.inl rfl, Or.inl rfl, Or.inl rfl, Or.inl rfl, Or.inl rfl, trivial⟩
  · rw [if_neg c3] at h
    refine a_icf i_Mo_names_168 c3 ?_
    refine a_iconst i_Mo_names_171 ?_
    refine a_goto i_Mo_names_172 ?_
    exact am_wk (t_Mo_names_176 h) ⟨Or.inl rfl, Or.inl rfl, Or.inl rfl, Or.inl rfl, Or.inl rfl, Or.inl rfl, Or.inl rfl, Or.inl rfl, Or.inl rfl, Or.inl rfl, trivial⟩
def g_Mo_names_39 : Nat → Int32 → Int32 → Int32 → Int32 → am_S → Option (Int32 × am_S)
  | 0, _, _, _, _, _ => none
  | n + 1, x1, x6, x7, x8, σ =>
  if x8 < 10 then
    if x7 = (-1) then
      g_Mo_names_165 x7 σ
    else
      am_gd (inb x8 10) <|
      if (σ.2.1 5 x8.toNatClampNeg) = 0 then
        am_bd (g_Mo_isName x6 x7 x8 σ) fun v16 σ16 =>
        if v16 = 0 then
          g_Mo_names_159 (g_Mo_names_39 n) x1 x6 x7 x8 σ16
        else
          am_bd (g_Mo_peek (x1 + 4) (4) σ16) fun v23 σ23 =>
          if (lg_cmp v23 8) = 0 then
            g_Mo_names_95 (g_Mo_names_39 n) x1 x6 x7 x8 (1) σ23
          else
            g_Mo_names_95 (g_Mo_names_39 n) x1 x6 x7 x8 (0) σ23
      else
        g_Mo_names_159 (g_Mo_names_39 n) x1 x6 x7 x8 σ
  else
    g_Mo_names_165 x7 σ
set_option maxHeartbeats 4000000 in
theorem t_Mo_names_39 : ∀ (n : Nat) {x1 : Int32} {x6 : Int32} {x7 : Int32} {x8 : Int32} {σ σ' : am_S} {r : Int32} (h : g_Mo_names_39 n x1 x6 x7 x8 σ = some (r, σ')), am_A S_m M_Mo_names (39, [some (.ref 0), some (.int x1), none, none, none, none, some (.int x6), some (.int x7), some (.int x8), none], [], σ) (am_r S_m (fun q τ => q = some (.int r) ∧ τ = σ')) := by
  intro n
  induction n with
  | zero =>
    intro x1 x6 x7 x8 σ σ' r h
    cases h
  | succ n ih =>
  intro x1 x6 x7 x8 σ σ' r h
  unfold g_Mo_names_39 at h
  refine a_iload i_Mo_names_39 rfl ?_
  refine a_bipush i_Mo_names_41 ?_
  by_cases c3 : x8 < 10
  · rw [if_pos c3] at h
    refine a_icf i_Mo_names_43 (Int32.not_le.mpr c3) ?_
    refine a_iload i_Mo_names_46 rfl ?_
    refine a_iconst i_Mo_names_48 ?_
    by_cases c6 : x7 = (-1)
    · rw [if_pos c6] at h
      refine a_ict i_Mo_names_49 c6 ?_
      exact am_wk (t_Mo_names_165 h) ⟨Or.inl rfl, Or.inl rfl, Or.inl rfl, Or.inl rfl, Or.inl rfl, Or.inl rfl, Or.inl rfl, Or.inr rfl, Or.inl rfl, Or.inl rfl, trivial⟩
    · rw [if_neg c6] at h
      refine a_icf i_Mo_names_49 c6 ?_
      refine a_aload_n i_Mo_names_52 rfl ?_
      refine a_get (v := .ref 5) i_Mo_names_53 rfl rfl ?_
      refine a_iload i_Mo_names_56 rfl ?_
      obtain ⟨c10, h⟩ := gd_some h
      refine a_bal (n := 10) i_Mo_names_58 rfl rfl (inb_in c10) ?_
      by_cases c11 : (σ.2.1 5 x8.toNatClampNeg) = 0
      · rw [if_pos c11] at h
        refine a_iff i_Mo_names_59 c11 ?_
        refine a_aload_n i_Mo_names_62 rfl ?_
        refine a_iload i_Mo_names_63 rfl ?_
        refine a_iload i_Mo_names_65 rfl ?_
        refine a_iload i_Mo_names_67 rfl ?_
        obtain ⟨v16, σ16, e16, h⟩ := am_bd_some h
        refine am_cvd (rest := []) [.int x6, .int x7, .int x8] c_Mo_names_69 ⟨by decide, _, rfl⟩ rfl (Nat.le_of_ble_eq_true rfl) (t_Mo_isName e16) ?_
        by_cases c17 : v16 = 0
        · rw [if_pos c17] at h
          refine a_ift i_Mo_names_72 c17 ?_
          exact t_Mo_names_159 (fun h => ih h) h
        · rw [if_neg c17] at h
          refine a_iff i_Mo_names_72 c17 ?_
          refine a_aload_n i_Mo_names_75 rfl ?_
          refine a_iload_n i_Mo_names_76 rfl ?_
          refine a_iconst i_Mo_names_77 ?_
          refine a_iadd i_Mo_names_78 ?_
          refine a_iconst i_Mo_names_79 ?_
          obtain ⟨v23, σ23, e23, h⟩ := am_bd_some h
          refine am_cvd (rest := []) [.int (x1 + 4), .int 4] c_Mo_names_80 ⟨by decide, _, rfl⟩ rfl (Nat.le_of_ble_eq_true rfl) (t_Mo_peek e23) ?_
          refine a_ldc2 i_Mo_names_83 ?_
          refine a_lcmp i_Mo_names_86 ?_
          by_cases c26 : (lg_cmp v23 8) = 0
          · rw [if_pos c26] at h
            refine a_iff i_Mo_names_87 c26 ?_
            refine a_iconst i_Mo_names_90 ?_
            refine a_goto i_Mo_names_91 ?_
            exact t_Mo_names_95 (fun h => ih h) h
          · rw [if_neg c26] at h
            refine a_ift i_Mo_names_87 c26 ?_
            refine a_iconst i_Mo_names_94 ?_
            exact t_Mo_names_95 (fun h => ih h) h
      · rw [if_neg c11] at h
        refine a_ift i_Mo_names_59 c11 ?_
        exact t_Mo_names_159 (fun h => ih h) h
  · rw [if_neg c3] at h
    refine a_ict i_Mo_names_43 (Int32.not_lt.mp c3) ?_
    exact am_wk (t_Mo_names_165 h) ⟨Or.inl rfl, Or.inl rfl, Or.inl rfl, Or.inl rfl, Or.inl rfl, Or.inl rfl, Or.inl rfl, Or.inr rfl, Or.inl rfl, Or.inl rfl, trivial⟩
def g_Mo_names (x1 : Int32) (x2 : Int32) (x3 : Int32) (σ : am_S) : Option (Int32 × am_S) :=
  am_bd (g_Mo_peek x1 (4) σ) fun v4 σ4 =>
  if (lg_cmp v4 ((x3 - x2).toInt64)) < 0 then
    am_bd (g_Mo_textEnd (x2 + v4.toInt32) x3 σ4) fun v21 σ21 =>
    g_Mo_names_39 4000 x1 (x2 + v4.toInt32) v21 (0) σ21
  else
    some (0, σ4)
set_option maxHeartbeats 4000000 in
theorem t_Mo_names_0 {x1 : Int32} {x2 : Int32} {x3 : Int32} {σ σ' : am_S} {r : Int32} (h : g_Mo_names x1 x2 x3 σ = some (r, σ')) : am_A S_m M_Mo_names (0, [some (.ref 0), some (.int x1), some (.int x2), some (.int x3), none, none, none, none, none, none], [], σ) (am_r S_m (fun q τ => q = some (.int r) ∧ τ = σ')) := by
  unfold g_Mo_names at h
  refine a_aload_n i_Mo_names_0 rfl ?_
  refine a_iload_n i_Mo_names_1 rfl ?_
  refine a_iconst i_Mo_names_2 ?_
  obtain ⟨v4, σ4, e4, h⟩ := am_bd_some h
  refine am_cvd (rest := []) [.int x1, .int 4] c_Mo_names_3 ⟨by decide, _, rfl⟩ rfl (Nat.le_of_ble_eq_true rfl) (t_Mo_peek e4) ?_
  refine a_lstore i_Mo_names_6 rfl ?_
  refine a_lload i_Mo_names_8 rfl ?_
  refine a_iload_n i_Mo_names_10 rfl ?_
  refine a_iload_n i_Mo_names_11 rfl ?_
  refine a_isub i_Mo_names_12 ?_
  refine a_i2l i_Mo_names_13 ?_
  refine a_lcmp i_Mo_names_14 ?_
  by_cases c12 : (lg_cmp v4 ((x3 - x2).toInt64)) < 0
  · rw [if_pos c12] at h
    refine a_ift i_Mo_names_15 c12 ?_
    refine a_iload_n i_Mo_names_20 rfl ?_
    refine a_lload i_Mo_names_21 rfl ?_
    refine a_l2i i_Mo_names_23 ?_
    refine a_iadd i_Mo_names_24 ?_
    refine a_istore i_Mo_names_25 rfl ?_
    refine a_aload_n i_Mo_names_27 rfl ?_
    refine a_iload i_Mo_names_28 rfl ?_
    refine a_iload_n i_Mo_names_30 rfl ?_
    obtain ⟨v21, σ21, e21, h⟩ := am_bd_some h
    refine am_cvd (rest := []) [.int (x2 + v4.toInt32), .int x3] c_Mo_names_31 ⟨by decide, _, rfl⟩ rfl (Nat.le_of_ble_eq_true rfl) (t_Mo_textEnd e21) ?_
    refine a_istore i_Mo_names_34 rfl ?_
    refine a_iconst i_Mo_names_36 ?_
    refine a_istore i_Mo_names_37 rfl ?_
    exact am_wk (t_Mo_names_39 4000 h) ⟨Or.inr rfl, Or.inr rfl, Or.inl rfl, Or.inl rfl, Or.inl rfl, Or.inl rfl, Or.inr rfl, Or.inr rfl, Or.inr rfl, Or.inl rfl, trivial⟩
  · rw [if_neg c12] at h
    refine a_iff i_Mo_names_15 c12 ?_
    refine a_iconst i_Mo_names_18 ?_
    exact am_ret_z ok_Mo_names rfl rfl (Or.inl rfl) (am_lf_i h)
theorem t_Mo_names {x1 : Int32} {x2 : Int32} {x3 : Int32} {σ σ' : am_S} {r : Int32} (h : g_Mo_names x1 x2 x3 σ = some (r, σ')) : am_Mt S_m M_Mo_names [.ref 0, .int x1, .int x2, .int x3] σ (fun q τ => q = some (.int r) ∧ τ = σ') :=
  am_M_of ok_Mo_names (Nat.le_of_ble_eq_true rfl) (t_Mo_names_0 h)
