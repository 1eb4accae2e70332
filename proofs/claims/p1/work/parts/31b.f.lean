/-! FrameFinder: forget, clear, fault, count, load; has -/
def fgC (σ : am_S) : am_S := am_fi (am_fi σ 0 11 0) 58 11 0
theorem f_forget {σ : am_S} : am_Mt S_c M_F_forget [.ref 0] σ (fun r σ' => r = none ∧ σ' = fgC σ) := by
  refine am_M_of ok_F_forget (Nat.le_of_ble_eq_true rfl) ?_
  refine a_aload_n i_F_forget_0 rfl ?_
  refine a_iconst i_F_forget_1 ?_
  refine a_puti i_F_forget_2 rfl (Or.inl rfl) ?_
  refine a_aload_n i_F_forget_5 rfl ?_
  refine a_get (v := .ref 58) i_F_forget_6 rfl rfl ?_
  refine a_iconst i_F_forget_9 ?_
  refine a_puti i_F_forget_10 rfl trivial ?_
  exact am_ret_v ok_F_forget rfl rfl ⟨rfl, rfl⟩
theorem f_clear {σ : am_S} : am_Mt S_c M_F_clear [.ref 0] σ (fun r σ' => r = none ∧ σ' = fgC (am_fi σ 0 10 0)) := by
  refine am_M_of ok_F_clear (Nat.le_of_ble_eq_true rfl) ?_
  refine a_aload_n i_F_clear_0 rfl ?_
  refine a_iconst i_F_clear_1 ?_
  refine a_puti i_F_clear_2 rfl trivial ?_
  refine a_aload_n i_F_clear_5 rfl ?_
  refine am_cv (rest := []) [] c_F_clear_6 ⟨by decide, _, rfl⟩ rfl (Nat.le_of_ble_eq_true rfl) (f_forget) (fun r9 σ9 h9 => ?_)
  obtain ⟨rfl, rfl⟩ := h9
  exact am_ret_v ok_F_clear rfl rfl ⟨rfl, rfl⟩
theorem f_fault {σ : am_S} : am_Mt S_c M_F_fault [.ref 0] σ (fun r σ' => r = some (.int (σ.1.1 0 12)) ∧ σ' = σ) := by
  refine am_M_of ok_F_fault (Nat.le_of_ble_eq_true rfl) ?_
  refine a_aload_n i_F_fault_0 rfl ?_
  refine a_get (v := .int (σ.1.1 0 12)) i_F_fault_1 rfl rfl ?_
  exact am_ret_i ok_F_fault rfl rfl ⟨rfl, rfl⟩
def hasC (σ : am_S) (i : Int32) : Int32 := if 0 ≤ i ∧ i < σ.1.1 58 11 then 1 else 0
theorem fr_has {σ : am_S} {i : Int32} : am_Mt S_c M_Fr_has [.ref 58, .int i] σ (fun r σ' => r = some (.int (hasC σ i)) ∧ σ' = σ) := by
  refine am_M_of ok_Fr_has (Nat.le_of_ble_eq_true rfl) ?_
  by_cases h0 : i < 0
  · refine a_iload_n i_Fr_has_0 rfl ?_
    refine a_ift i_Fr_has_1 h0 ?_
    refine a_iconst i_Fr_has_16 ?_
    refine am_ret_z ok_Fr_has rfl rfl (Or.inl rfl) ⟨?_, rfl⟩
    have h1 : ¬ (0 ≤ i ∧ i < σ.1.1 58 11) := fun h => absurd h.1 (by rw [Int32.not_le]; exact h0)
    rw [hasC, if_neg h1]
  · by_cases h1 : i < σ.1.1 58 11
    · refine a_iload_n i_Fr_has_0 rfl ?_
      refine a_iff i_Fr_has_1 h0 ?_
      refine a_iload_n i_Fr_has_4 rfl ?_
      refine a_aload_n i_Fr_has_5 rfl ?_
      refine a_get (v := .int (σ.1.1 58 11)) i_Fr_has_6 rfl rfl ?_
      refine a_icf i_Fr_has_9 (by show ¬ σ.1.1 58 11 ≤ i; rw [Int32.not_le]; exact h1) ?_
      refine a_iconst i_Fr_has_12 ?_
      refine a_goto i_Fr_has_13 ?_
      refine am_ret_z ok_Fr_has rfl rfl (Or.inr rfl) ⟨?_, rfl⟩
      rw [hasC, if_pos ⟨Int32.not_lt.mp h0, h1⟩]
    · refine a_iload_n i_Fr_has_0 rfl ?_
      refine a_iff i_Fr_has_1 h0 ?_
      refine a_iload_n i_Fr_has_4 rfl ?_
      refine a_aload_n i_Fr_has_5 rfl ?_
      refine a_get (v := .int (σ.1.1 58 11)) i_Fr_has_6 rfl rfl ?_
      refine a_ict i_Fr_has_9 (Int32.not_lt.mp h1) ?_
      refine a_iconst i_Fr_has_16 ?_
      refine am_ret_z ok_Fr_has rfl rfl (Or.inl rfl) ⟨?_, rfl⟩
      rw [hasC, if_neg (fun h => h1 h.2)]
def cntC (σ : am_S) (q : Int32) : Int32 := if σ.1.1 0 11 = 0 then -1 else if q = 0 then σ.1.1 2 8 else if q = 1 then σ.1.1 10 11 else if q = 2 then σ.1.1 10 10 else if q = 3 then σ.1.1 32 4 else if q = 4 then σ.1.1 40 8 else if q = 5 then σ.1.1 52 6 else -1
theorem f_count {σ : am_S} {q : Int32} : am_Mt S_c M_F_count [.ref 0, .int q] σ (fun r σ' => r = some (.int (cntC σ q)) ∧ σ' = σ) := by
  refine am_M_of ok_F_count (Nat.le_of_ble_eq_true rfl) ?_
  by_cases h0 : σ.1.1 0 11 = 0
  · refine a_aload_n i_F_count_0 rfl ?_
    refine a_get (v := .int (σ.1.1 0 11)) i_F_count_1 rfl rfl ?_
    refine a_iff i_F_count_4 h0 ?_
    refine a_iconst i_F_count_7 ?_
    exact am_ret_i ok_F_count rfl rfl ⟨by rw [cntC, if_pos h0], rfl⟩
  · by_cases e0 : q = 0
    · subst e0
      refine a_aload_n i_F_count_0 rfl ?_
      refine a_get (v := .int (σ.1.1 0 11)) i_F_count_1 rfl rfl ?_
      refine a_ift i_F_count_4 h0 ?_
      refine a_iload_n i_F_count_9 rfl ?_
      refine a_tab 0 i_F_count_10 rfl (by decide) (by decide) rfl ?_
      refine a_aload_n i_F_count_48 rfl ?_
      refine a_get (v := .ref 2) i_F_count_49 rfl rfl ?_
      refine a_get (v := .int (σ.1.1 2 8)) i_F_count_52 rfl rfl ?_
      refine am_ret_i ok_F_count rfl rfl ⟨?_, rfl⟩
      simp [cntC, h0]
    · by_cases e1 : q = 1
      · subst e1
        refine a_aload_n i_F_count_0 rfl ?_
        refine a_get (v := .int (σ.1.1 0 11)) i_F_count_1 rfl rfl ?_
        refine a_ift i_F_count_4 h0 ?_
        refine a_iload_n i_F_count_9 rfl ?_
        refine a_tab 1 i_F_count_10 rfl (by decide) (by decide) rfl ?_
        refine a_aload_n i_F_count_56 rfl ?_
        refine a_get (v := .ref 10) i_F_count_57 rfl rfl ?_
        refine a_get (v := .int (σ.1.1 10 11)) i_F_count_60 rfl rfl ?_
        refine am_ret_i ok_F_count rfl rfl ⟨?_, rfl⟩
        simp [cntC, h0]
      · by_cases e2 : q = 2
        · subst e2
          refine a_aload_n i_F_count_0 rfl ?_
          refine a_get (v := .int (σ.1.1 0 11)) i_F_count_1 rfl rfl ?_
          refine a_ift i_F_count_4 h0 ?_
          refine a_iload_n i_F_count_9 rfl ?_
          refine a_tab 2 i_F_count_10 rfl (by decide) (by decide) rfl ?_
          refine a_aload_n i_F_count_64 rfl ?_
          refine a_get (v := .ref 10) i_F_count_65 rfl rfl ?_
          refine a_get (v := .int (σ.1.1 10 10)) i_F_count_68 rfl rfl ?_
          refine am_ret_i ok_F_count rfl rfl ⟨?_, rfl⟩
          simp [cntC, h0]
        · by_cases e3 : q = 3
          · subst e3
            refine a_aload_n i_F_count_0 rfl ?_
            refine a_get (v := .int (σ.1.1 0 11)) i_F_count_1 rfl rfl ?_
            refine a_ift i_F_count_4 h0 ?_
            refine a_iload_n i_F_count_9 rfl ?_
            refine a_tab 3 i_F_count_10 rfl (by decide) (by decide) rfl ?_
            refine a_aload_n i_F_count_72 rfl ?_
            refine a_get (v := .ref 32) i_F_count_73 rfl rfl ?_
            refine a_get (v := .int (σ.1.1 32 4)) i_F_count_76 rfl rfl ?_
            refine am_ret_i ok_F_count rfl rfl ⟨?_, rfl⟩
            simp [cntC, h0]
          · by_cases e4 : q = 4
            · subst e4
              refine a_aload_n i_F_count_0 rfl ?_
              refine a_get (v := .int (σ.1.1 0 11)) i_F_count_1 rfl rfl ?_
              refine a_ift i_F_count_4 h0 ?_
              refine a_iload_n i_F_count_9 rfl ?_
              refine a_tab 4 i_F_count_10 rfl (by decide) (by decide) rfl ?_
              refine a_aload_n i_F_count_80 rfl ?_
              refine a_get (v := .ref 40) i_F_count_81 rfl rfl ?_
              refine a_get (v := .int (σ.1.1 40 8)) i_F_count_84 rfl rfl ?_
              refine am_ret_i ok_F_count rfl rfl ⟨?_, rfl⟩
              simp [cntC, h0]
            · by_cases e5 : q = 5
              · subst e5
                refine a_aload_n i_F_count_0 rfl ?_
                refine a_get (v := .int (σ.1.1 0 11)) i_F_count_1 rfl rfl ?_
                refine a_ift i_F_count_4 h0 ?_
                refine a_iload_n i_F_count_9 rfl ?_
                refine a_tab 5 i_F_count_10 rfl (by decide) (by decide) rfl ?_
                refine a_aload_n i_F_count_88 rfl ?_
                refine a_get (v := .ref 52) i_F_count_89 rfl rfl ?_
                refine a_get (v := .int (σ.1.1 52 6)) i_F_count_92 rfl rfl ?_
                refine am_ret_i ok_F_count rfl rfl ⟨?_, rfl⟩
                simp [cntC, h0]
              · have hd : q.toInt < 0 ∨ 5 < q.toInt := by
                  have f0 : q.toInt ≠ 0 := lv_neT e0 rfl
                  have f1 : q.toInt ≠ 1 := lv_neT e1 rfl
                  have f2 : q.toInt ≠ 2 := lv_neT e2 rfl
                  have f3 : q.toInt ≠ 3 := lv_neT e3 rfl
                  have f4 : q.toInt ≠ 4 := lv_neT e4 rfl
                  have f5 : q.toInt ≠ 5 := lv_neT e5 rfl
                  omega
                refine a_aload_n i_F_count_0 rfl ?_
                refine a_get (v := .int (σ.1.1 0 11)) i_F_count_1 rfl rfl ?_
                refine a_ift i_F_count_4 h0 ?_
                refine a_iload_n i_F_count_9 rfl ?_
                refine a_tabd i_F_count_10 hd rfl ?_
                refine a_iconst i_F_count_96 ?_
                refine am_ret_i ok_F_count rfl rfl ⟨?_, rfl⟩
                simp [cntC, h0, e0, e1, e2, e3, e4, e5]
def bC (x : Int64) (i : Nat) : Int32 := vp_nar .byte (((x.toUInt64 >>> ((8 * nI i).toInt64.toUInt64 &&& Int64.toUInt64 63)).toInt64).toInt32.toInt8.toInt32)
def ldC (σ : am_S) (x : Int64) (len : Nat) : Nat → am_S
  | 0 => σ
  | i + 1 => am_ai (ldC σ x len i) 1 (len + i) (bC x i)
theorem ldC_1 (σ : am_S) (x : Int64) (len : Nat) : ∀ i, (ldC σ x len i).1 = σ.1
  | 0 => rfl
  | i + 1 => ldC_1 σ x len i
theorem f_load_no {σ : am_S} {n : Int32} {x : Int64} (h : n < 1 ∨ 8 < n ∨ 3000 - σ.1.1 0 10 < n) : am_Mt S_c M_F_load [.ref 0, .int n, .long x] σ (fun r σ' => r = some (.int 0) ∧ σ' = σ) := by
  refine am_M_of ok_F_load (Nat.le_of_ble_eq_true rfl) ?_
  by_cases h1 : n < 1
  · refine a_iload_n i_F_load_0 rfl ?_
    refine a_iconst i_F_load_1 ?_
    refine a_ict i_F_load_2 h1 ?_
    refine a_iconst i_F_load_23 ?_
    exact am_ret_z ok_F_load rfl rfl (Or.inl rfl) ⟨rfl, rfl⟩
  · by_cases h2 : 8 < n
    · refine a_iload_n i_F_load_0 rfl ?_
      refine a_iconst i_F_load_1 ?_
      refine a_icf i_F_load_2 h1 ?_
      refine a_iload_n i_F_load_5 rfl ?_
      refine a_bipush i_F_load_6 ?_
      refine a_ict i_F_load_8 h2 ?_
      refine a_iconst i_F_load_23 ?_
      exact am_ret_z ok_F_load rfl rfl (Or.inl rfl) ⟨rfl, rfl⟩
    · refine a_iload_n i_F_load_0 rfl ?_
      refine a_iconst i_F_load_1 ?_
      refine a_icf i_F_load_2 h1 ?_
      refine a_iload_n i_F_load_5 rfl ?_
      refine a_bipush i_F_load_6 ?_
      refine a_icf i_F_load_8 h2 ?_
      refine a_iload_n i_F_load_11 rfl ?_
      refine a_sipush i_F_load_12 ?_
      refine a_aload_n i_F_load_15 rfl ?_
      refine a_get (v := .int (σ.1.1 0 10)) i_F_load_16 rfl rfl ?_
      refine a_isub i_F_load_19 ?_
      refine a_icf i_F_load_20 (by show ¬ n ≤ 3000 - σ.1.1 0 10; rw [Int32.not_le]; exact (h.resolve_left h1).resolve_left h2) ?_
      refine a_iconst i_F_load_23 ?_
      exact am_ret_z ok_F_load rfl rfl (Or.inl rfl) ⟨rfl, rfl⟩
theorem f_load {σ : am_S} {m len : Nat} {x : Int64} (hl : σ.1.1 0 10 = nI len) (h1 : 1 ≤ m) (h8 : m ≤ 8) (h3 : len + m ≤ 3000) : am_Mt S_c M_F_load [.ref 0, .int (nI m), .long x] σ (fun r σ' => r = some (.int 1) ∧ σ' = fgC (am_fi (ldC σ x len m) 0 10 (nI (len + m)))) := by
  refine am_M_of ok_F_load (Nat.le_of_ble_eq_true rfl) ?_
  refine a_iload_n i_F_load_0 rfl ?_
  refine a_iconst i_F_load_1 ?_
  refine a_icf i_F_load_2 (nI_nlt (a := m) (b := 1) h1 (by omega)) ?_
  refine a_iload_n i_F_load_5 rfl ?_
  refine a_bipush i_F_load_6 ?_
  refine a_icf i_F_load_8 (nI_nlt (a := 8) (b := m) h8 (by decide)) ?_
  refine a_iload_n i_F_load_11 rfl ?_
  refine a_sipush i_F_load_12 ?_
  refine a_aload_n i_F_load_15 rfl ?_
  refine a_get (v := .int (σ.1.1 0 10)) i_F_load_16 rfl rfl ?_
  refine a_isub i_F_load_19 ?_
  refine a_ict i_F_load_20 (by show nI m ≤ nI 3000 - σ.1.1 0 10; rw [hl, pk_sub (by omega)]; exact nI_le (by omega) (by omega)) ?_
  refine a_iconst i_F_load_25 ?_
  refine a_istore i_F_load_26 rfl ?_
  have key : ∀ j i, i + j = m → am_A S_c M_F_load (28, [some (.ref 0), some (.int (nI m)), some (.long x), none, some (.int (nI i))], [], ldC σ x len i) (am_r S_c (fun r σ' => r = some (.int 1) ∧ σ' = fgC (am_fi (ldC σ x len m) 0 10 (nI (len + m))))) := by
    intro j
    induction j with
    | zero =>
      intro i hi
      have e : i = m := by omega
      subst e
      refine a_iload i_F_load_28 rfl ?_
      refine a_iload_n i_F_load_30 rfl ?_
      refine a_ict i_F_load_31 (nI_le (Nat.le_refl _) (by omega)) ?_
      refine a_aload_n i_F_load_61 rfl ?_
      refine a_dup_a i_F_load_62 ?_
      refine a_get (v := .int ((ldC σ x len i).1.1 0 10)) i_F_load_63 rfl rfl ?_
      refine a_iload_n i_F_load_66 rfl ?_
      refine a_iadd i_F_load_67 ?_
      refine a_puti i_F_load_68 rfl trivial ?_
      refine a_aload_n i_F_load_71 rfl ?_
      rw [ldC_1, hl, nI_add]
      refine am_cv (rest := []) [] c_F_load_72 ⟨by decide, _, rfl⟩ rfl (Nat.le_of_ble_eq_true rfl) (f_forget) (fun r9 σ9 h9 => ?_)
      obtain ⟨rfl, rfl⟩ := h9
      refine a_iconst i_F_load_75 ?_
      exact am_ret_z ok_F_load rfl rfl (Or.inr rfl) ⟨rfl, rfl⟩
    | succ j ih =>
      intro i hi
      refine a_iload i_F_load_28 rfl ?_
      refine a_iload_n i_F_load_30 rfl ?_
      refine a_icf i_F_load_31 (nI_ge (a := i) (b := m) (by omega) (by omega)) ?_
      refine a_aload_n i_F_load_34 rfl ?_
      refine a_get (v := .ref 1) i_F_load_35 rfl rfl ?_
      refine a_aload_n i_F_load_38 rfl ?_
      refine a_get (v := .int ((ldC σ x len i).1.1 0 10)) i_F_load_39 rfl rfl ?_
      refine a_iload i_F_load_42 rfl ?_
      refine a_iadd i_F_load_44 ?_
      refine a_lload_n i_F_load_45 rfl ?_
      refine a_bipush i_F_load_46 ?_
      refine a_iload i_F_load_48 rfl ?_
      refine a_imul i_F_load_50 ?_
      refine a_lushr i_F_load_51 ?_
      refine a_l2i i_F_load_52 ?_
      refine a_i2b i_F_load_53 ?_
      refine a_bas (n := 3000) i_F_load_54 rfl rfl (by rw [ldC_1, hl, nI_add]; exact vp_in_nI (by omega) (by decide)) ?_
      refine a_iinc i_F_load_55 rfl rfl ?_
      refine a_goto i_F_load_58 ?_
      rw [ldC_1, hl, nI_add, nI_clamp (by omega), nI_1]
      exact ih (i + 1) (by omega)
  exact key m 0 (by omega)
