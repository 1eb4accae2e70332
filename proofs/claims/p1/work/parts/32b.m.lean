/-! FrameFinderModel: thrown, forget, clear, fault, count, isFrame, load; find, open, name, file, line where nothing is open -/
def fgM (σ : am_S) : am_S := am_fi (am_fi (am_fi σ 0 5 0) 0 56 0) 0 55 0
theorem m_thrown {σ : am_S} : am_Mt S_m M_Mo_thrown [.ref 0] σ (fun r σ' => r = some (.int (σ.1.1 0 1)) ∧ σ' = σ) := by
  refine am_M_of ok_Mo_thrown (Nat.le_of_ble_eq_true rfl) ?_
  refine a_aload_n i_Mo_thrown_0 rfl ?_
  refine a_get (v := .int (σ.1.1 0 1)) i_Mo_thrown_1 rfl rfl ?_
  exact am_ret_i ok_Mo_thrown rfl rfl ⟨rfl, rfl⟩
theorem m_forget {σ : am_S} : am_Mt S_m M_Mo_forget [.ref 0] σ (fun r σ' => r = none ∧ σ' = fgM σ) := by
  refine am_M_of ok_Mo_forget (Nat.le_of_ble_eq_true rfl) ?_
  refine a_aload_n i_Mo_forget_0 rfl ?_
  refine a_iconst i_Mo_forget_1 ?_
  refine a_puti i_Mo_forget_2 rfl (Or.inl rfl) ?_
  refine a_aload_n i_Mo_forget_5 rfl ?_
  refine a_iconst i_Mo_forget_6 ?_
  refine a_puti i_Mo_forget_7 rfl trivial ?_
  refine a_aload_n i_Mo_forget_10 rfl ?_
  refine a_iconst i_Mo_forget_11 ?_
  refine a_puti i_Mo_forget_12 rfl trivial ?_
  exact am_ret_v ok_Mo_forget rfl rfl ⟨rfl, rfl⟩
theorem m_clear {σ : am_S} : am_Mt S_m M_Mo_clear [.ref 0] σ (fun r σ' => r = none ∧ σ' = fgM (am_fi (am_fi σ 0 1 0) 0 3 0)) := by
  refine am_M_of ok_Mo_clear (Nat.le_of_ble_eq_true rfl) ?_
  refine a_aload_n i_Mo_clear_0 rfl ?_
  refine a_iconst i_Mo_clear_1 ?_
  refine a_puti i_Mo_clear_2 rfl trivial ?_
  refine a_aload_n i_Mo_clear_5 rfl ?_
  refine a_iconst i_Mo_clear_6 ?_
  refine a_puti i_Mo_clear_7 rfl trivial ?_
  refine a_aload_n i_Mo_clear_10 rfl ?_
  refine am_cv (rest := []) [] c_Mo_clear_11 ⟨by decide, _, rfl⟩ rfl (Nat.le_of_ble_eq_true rfl) (m_forget) (fun r9 σ9 h9 => ?_)
  obtain ⟨rfl, rfl⟩ := h9
  exact am_ret_v ok_Mo_clear rfl rfl ⟨rfl, rfl⟩
theorem m_fault {σ : am_S} : am_Mt S_m M_Mo_fault [.ref 0] σ (fun r σ' => r = some (.int (σ.1.1 0 4)) ∧ σ' = am_fi σ 0 1 0) := by
  refine am_M_of ok_Mo_fault (Nat.le_of_ble_eq_true rfl) ?_
  refine a_aload_n i_Mo_fault_0 rfl ?_
  refine a_iconst i_Mo_fault_1 ?_
  refine a_puti i_Mo_fault_2 rfl trivial ?_
  refine a_aload_n i_Mo_fault_5 rfl ?_
  refine a_get (v := .int (σ.1.1 0 4)) i_Mo_fault_6 rfl rfl ?_
  exact am_ret_i ok_Mo_fault rfl rfl ⟨rfl, rfl⟩
def hasM (σ : am_S) (i : Int32) : Int32 := if 0 ≤ i ∧ i < σ.1.1 0 56 then 1 else 0
theorem m_isFrame {σ : am_S} {i : Int32} : am_Mt S_m M_Mo_isFrame [.ref 0, .int i] σ (fun r σ' => r = some (.int (hasM σ i)) ∧ σ' = σ) := by
  refine am_M_of ok_Mo_isFrame (Nat.le_of_ble_eq_true rfl) ?_
  by_cases h0 : i < 0
  · refine a_iload_n i_Mo_isFrame_0 rfl ?_
    refine a_ift i_Mo_isFrame_1 h0 ?_
    refine a_iconst i_Mo_isFrame_16 ?_
    refine am_ret_z ok_Mo_isFrame rfl rfl (Or.inl rfl) ⟨?_, rfl⟩
    have h1 : ¬ (0 ≤ i ∧ i < σ.1.1 0 56) := fun h => absurd h.1 (by rw [Int32.not_le]; exact h0)
    rw [hasM, if_neg h1]
  · by_cases h1 : i < σ.1.1 0 56
    · refine a_iload_n i_Mo_isFrame_0 rfl ?_
      refine a_iff i_Mo_isFrame_1 h0 ?_
      refine a_iload_n i_Mo_isFrame_4 rfl ?_
      refine a_aload_n i_Mo_isFrame_5 rfl ?_
      refine a_get (v := .int (σ.1.1 0 56)) i_Mo_isFrame_6 rfl rfl ?_
      refine a_icf i_Mo_isFrame_9 (by show ¬ σ.1.1 0 56 ≤ i; rw [Int32.not_le]; exact h1) ?_
      refine a_iconst i_Mo_isFrame_12 ?_
      refine a_goto i_Mo_isFrame_13 ?_
      refine am_ret_z ok_Mo_isFrame rfl rfl (Or.inr rfl) ⟨?_, rfl⟩
      rw [hasM, if_pos ⟨Int32.not_lt.mp h0, h1⟩]
    · refine a_iload_n i_Mo_isFrame_0 rfl ?_
      refine a_iff i_Mo_isFrame_1 h0 ?_
      refine a_iload_n i_Mo_isFrame_4 rfl ?_
      refine a_aload_n i_Mo_isFrame_5 rfl ?_
      refine a_get (v := .int (σ.1.1 0 56)) i_Mo_isFrame_6 rfl rfl ?_
      refine a_ict i_Mo_isFrame_9 (Int32.not_lt.mp h1) ?_
      refine a_iconst i_Mo_isFrame_16 ?_
      refine am_ret_z ok_Mo_isFrame rfl rfl (Or.inl rfl) ⟨?_, rfl⟩
      rw [hasM, if_neg (fun h => h1 h.2)]
def cntM (σ : am_S) (q : Int32) : Int32 := if σ.1.1 0 5 = 0 then -1 else if q = 0 then σ.1.1 0 9 else if q = 1 then σ.1.1 0 21 else if q = 2 then σ.1.1 0 22 else if q = 3 then σ.1.1 0 33 else if q = 4 then σ.1.1 0 38 else if q = 5 then σ.1.1 0 54 else -1
theorem m_count {σ : am_S} {q : Int32} : am_Mt S_m M_Mo_count [.ref 0, .int q] σ (fun r σ' => r = some (.int (cntM σ q)) ∧ σ' = am_fi σ 0 1 0) := by
  refine am_M_of ok_Mo_count (Nat.le_of_ble_eq_true rfl) ?_
  by_cases h0 : σ.1.1 0 5 = 0
  · refine a_aload_n i_Mo_count_0 rfl ?_
    refine a_iconst i_Mo_count_1 ?_
    refine a_puti i_Mo_count_2 rfl trivial ?_
    refine a_aload_n i_Mo_count_5 rfl ?_
    refine a_get (v := .int (σ.1.1 0 5)) i_Mo_count_6 rfl rfl ?_
    refine a_iff i_Mo_count_9 h0 ?_
    refine a_iconst i_Mo_count_12 ?_
    exact am_ret_i ok_Mo_count rfl rfl ⟨by rw [cntM, if_pos h0], rfl⟩
  · by_cases e0 : q = 0
    · subst e0
      refine a_aload_n i_Mo_count_0 rfl ?_
      refine a_iconst i_Mo_count_1 ?_
      refine a_puti i_Mo_count_2 rfl trivial ?_
      refine a_aload_n i_Mo_count_5 rfl ?_
      refine a_get (v := .int (σ.1.1 0 5)) i_Mo_count_6 rfl rfl ?_
      refine a_ift i_Mo_count_9 h0 ?_
      refine a_iload_n i_Mo_count_14 rfl ?_
      refine a_tab 0 i_Mo_count_15 rfl (by decide) (by decide) rfl ?_
      refine a_aload_n i_Mo_count_52 rfl ?_
      refine a_get (v := .int (σ.1.1 0 9)) i_Mo_count_53 rfl rfl ?_
      refine am_ret_i ok_Mo_count rfl rfl ⟨?_, rfl⟩
      simp [cntM, h0]
    · by_cases e1 : q = 1
      · subst e1
        refine a_aload_n i_Mo_count_0 rfl ?_
        refine a_iconst i_Mo_count_1 ?_
        refine a_puti i_Mo_count_2 rfl trivial ?_
        refine a_aload_n i_Mo_count_5 rfl ?_
        refine a_get (v := .int (σ.1.1 0 5)) i_Mo_count_6 rfl rfl ?_
        refine a_ift i_Mo_count_9 h0 ?_
        refine a_iload_n i_Mo_count_14 rfl ?_
        refine a_tab 1 i_Mo_count_15 rfl (by decide) (by decide) rfl ?_
        refine a_aload_n i_Mo_count_57 rfl ?_
        refine a_get (v := .int (σ.1.1 0 21)) i_Mo_count_58 rfl rfl ?_
        refine am_ret_i ok_Mo_count rfl rfl ⟨?_, rfl⟩
        simp [cntM, h0]
      · by_cases e2 : q = 2
        · subst e2
          refine a_aload_n i_Mo_count_0 rfl ?_
          refine a_iconst i_Mo_count_1 ?_
          refine a_puti i_Mo_count_2 rfl trivial ?_
          refine a_aload_n i_Mo_count_5 rfl ?_
          refine a_get (v := .int (σ.1.1 0 5)) i_Mo_count_6 rfl rfl ?_
          refine a_ift i_Mo_count_9 h0 ?_
          refine a_iload_n i_Mo_count_14 rfl ?_
          refine a_tab 2 i_Mo_count_15 rfl (by decide) (by decide) rfl ?_
          refine a_aload_n i_Mo_count_62 rfl ?_
          refine a_get (v := .int (σ.1.1 0 22)) i_Mo_count_63 rfl rfl ?_
          refine am_ret_i ok_Mo_count rfl rfl ⟨?_, rfl⟩
          simp [cntM, h0]
        · by_cases e3 : q = 3
          · subst e3
            refine a_aload_n i_Mo_count_0 rfl ?_
            refine a_iconst i_Mo_count_1 ?_
            refine a_puti i_Mo_count_2 rfl trivial ?_
            refine a_aload_n i_Mo_count_5 rfl ?_
            refine a_get (v := .int (σ.1.1 0 5)) i_Mo_count_6 rfl rfl ?_
            refine a_ift i_Mo_count_9 h0 ?_
            refine a_iload_n i_Mo_count_14 rfl ?_
            refine a_tab 3 i_Mo_count_15 rfl (by decide) (by decide) rfl ?_
            refine a_aload_n i_Mo_count_67 rfl ?_
            refine a_get (v := .int (σ.1.1 0 33)) i_Mo_count_68 rfl rfl ?_
            refine am_ret_i ok_Mo_count rfl rfl ⟨?_, rfl⟩
            simp [cntM, h0]
          · by_cases e4 : q = 4
            · subst e4
              refine a_aload_n i_Mo_count_0 rfl ?_
              refine a_iconst i_Mo_count_1 ?_
              refine a_puti i_Mo_count_2 rfl trivial ?_
              refine a_aload_n i_Mo_count_5 rfl ?_
              refine a_get (v := .int (σ.1.1 0 5)) i_Mo_count_6 rfl rfl ?_
              refine a_ift i_Mo_count_9 h0 ?_
              refine a_iload_n i_Mo_count_14 rfl ?_
              refine a_tab 4 i_Mo_count_15 rfl (by decide) (by decide) rfl ?_
              refine a_aload_n i_Mo_count_72 rfl ?_
              refine a_get (v := .int (σ.1.1 0 38)) i_Mo_count_73 rfl rfl ?_
              refine am_ret_i ok_Mo_count rfl rfl ⟨?_, rfl⟩
              simp [cntM, h0]
            · by_cases e5 : q = 5
              · subst e5
                refine a_aload_n i_Mo_count_0 rfl ?_
                refine a_iconst i_Mo_count_1 ?_
                refine a_puti i_Mo_count_2 rfl trivial ?_
                refine a_aload_n i_Mo_count_5 rfl ?_
                refine a_get (v := .int (σ.1.1 0 5)) i_Mo_count_6 rfl rfl ?_
                refine a_ift i_Mo_count_9 h0 ?_
                refine a_iload_n i_Mo_count_14 rfl ?_
                refine a_tab 5 i_Mo_count_15 rfl (by decide) (by decide) rfl ?_
                refine a_aload_n i_Mo_count_77 rfl ?_
                refine a_get (v := .int (σ.1.1 0 54)) i_Mo_count_78 rfl rfl ?_
                refine am_ret_i ok_Mo_count rfl rfl ⟨?_, rfl⟩
                simp [cntM, h0]
              · have hd : q.toInt < 0 ∨ 5 < q.toInt := by
                  have f0 : q.toInt ≠ 0 := lv_neT e0 rfl
                  have f1 : q.toInt ≠ 1 := lv_neT e1 rfl
                  have f2 : q.toInt ≠ 2 := lv_neT e2 rfl
                  have f3 : q.toInt ≠ 3 := lv_neT e3 rfl
                  have f4 : q.toInt ≠ 4 := lv_neT e4 rfl
                  have f5 : q.toInt ≠ 5 := lv_neT e5 rfl
                  omega
                refine a_aload_n i_Mo_count_0 rfl ?_
                refine a_iconst i_Mo_count_1 ?_
                refine a_puti i_Mo_count_2 rfl trivial ?_
                refine a_aload_n i_Mo_count_5 rfl ?_
                refine a_get (v := .int (σ.1.1 0 5)) i_Mo_count_6 rfl rfl ?_
                refine a_ift i_Mo_count_9 h0 ?_
                refine a_iload_n i_Mo_count_14 rfl ?_
                refine a_tabd i_Mo_count_15 hd rfl ?_
                refine a_iconst i_Mo_count_82 ?_
                refine am_ret_i ok_Mo_count rfl rfl ⟨?_, rfl⟩
                simp [cntM, h0, e0, e1, e2, e3, e4, e5]
def bM (x : Int64) (i : Nat) : Int32 := vp_nar .byte ((x >>> ((8 * nI i).toInt64 &&& 63)).toInt32.toInt8.toInt32)
def ldM (σ : am_S) (x : Int64) (len : Nat) : Nat → am_S
  | 0 => σ
  | i + 1 => am_fi (am_ai (ldM σ x len i) 2 (len + i) (bM x i)) 0 3 (nI (len + i + 1))
theorem ldM_s {σ : am_S} {x : Int64} {len : Nat} (h : σ.1.1 0 3 = nI len) : ∀ i, (ldM σ x len i).1.1 0 3 = nI (len + i)
  | 0 => h
  | i + 1 => rfl
theorem m_load_no {σ : am_S} {n : Int32} {x : Int64} (h : n < 1 ∨ 8 < n ∨ 3000 < σ.1.1 0 3 + n) : am_Mt S_m M_Mo_load [.ref 0, .int n, .long x] σ (fun r σ' => r = some (.int 0) ∧ σ' = am_fi σ 0 1 0) := by
  refine am_M_of ok_Mo_load (Nat.le_of_ble_eq_true rfl) ?_
  by_cases h1 : n < 1
  · refine a_aload_n i_Mo_load_0 rfl ?_
    refine a_iconst i_Mo_load_1 ?_
    refine a_puti i_Mo_load_2 rfl trivial ?_
    refine a_iload_n i_Mo_load_5 rfl ?_
    refine a_iconst i_Mo_load_6 ?_
    refine a_ict i_Mo_load_7 h1 ?_
    refine a_iconst i_Mo_load_28 ?_
    exact am_ret_z ok_Mo_load rfl rfl (Or.inl rfl) ⟨rfl, rfl⟩
  · by_cases h2 : 8 < n
    · refine a_aload_n i_Mo_load_0 rfl ?_
      refine a_iconst i_Mo_load_1 ?_
      refine a_puti i_Mo_load_2 rfl trivial ?_
      refine a_iload_n i_Mo_load_5 rfl ?_
      refine a_iconst i_Mo_load_6 ?_
      refine a_icf i_Mo_load_7 h1 ?_
      refine a_iload_n i_Mo_load_10 rfl ?_
      refine a_bipush i_Mo_load_11 ?_
      refine a_ict i_Mo_load_13 h2 ?_
      refine a_iconst i_Mo_load_28 ?_
      exact am_ret_z ok_Mo_load rfl rfl (Or.inl rfl) ⟨rfl, rfl⟩
    · refine a_aload_n i_Mo_load_0 rfl ?_
      refine a_iconst i_Mo_load_1 ?_
      refine a_puti i_Mo_load_2 rfl trivial ?_
      refine a_iload_n i_Mo_load_5 rfl ?_
      refine a_iconst i_Mo_load_6 ?_
      refine a_icf i_Mo_load_7 h1 ?_
      refine a_iload_n i_Mo_load_10 rfl ?_
      refine a_bipush i_Mo_load_11 ?_
      refine a_icf i_Mo_load_13 h2 ?_
      refine a_aload_n i_Mo_load_16 rfl ?_
      refine a_get (v := .int (σ.1.1 0 3)) i_Mo_load_17 rfl rfl ?_
      refine a_iload_n i_Mo_load_20 rfl ?_
      refine a_iadd i_Mo_load_21 ?_
      refine a_sipush i_Mo_load_22 ?_
      refine a_icf i_Mo_load_25 (by show ¬ σ.1.1 0 3 + n ≤ 3000; rw [Int32.not_le]; exact (h.resolve_left h1).resolve_left h2) ?_
      refine a_iconst i_Mo_load_28 ?_
      exact am_ret_z ok_Mo_load rfl rfl (Or.inl rfl) ⟨rfl, rfl⟩
theorem m_load {σ : am_S} {m len : Nat} {x : Int64} (hl : σ.1.1 0 3 = nI len) (h1 : 1 ≤ m) (h8 : m ≤ 8) (h3 : len + m ≤ 3000) : am_Mt S_m M_Mo_load [.ref 0, .int (nI m), .long x] σ (fun r σ' => r = some (.int 1) ∧ σ' = fgM (ldM (am_fi σ 0 1 0) x len m)) := by
  refine am_M_of ok_Mo_load (Nat.le_of_ble_eq_true rfl) ?_
  refine a_aload_n i_Mo_load_0 rfl ?_
  refine a_iconst i_Mo_load_1 ?_
  refine a_puti i_Mo_load_2 rfl trivial ?_
  refine a_iload_n i_Mo_load_5 rfl ?_
  refine a_iconst i_Mo_load_6 ?_
  refine a_icf i_Mo_load_7 (nI_nlt (a := m) (b := 1) h1 (by omega)) ?_
  refine a_iload_n i_Mo_load_10 rfl ?_
  refine a_bipush i_Mo_load_11 ?_
  refine a_icf i_Mo_load_13 (nI_nlt (a := 8) (b := m) h8 (by decide)) ?_
  refine a_aload_n i_Mo_load_16 rfl ?_
  refine a_get (v := .int (σ.1.1 0 3)) i_Mo_load_17 rfl rfl ?_
  refine a_iload_n i_Mo_load_20 rfl ?_
  refine a_iadd i_Mo_load_21 ?_
  refine a_sipush i_Mo_load_22 ?_
  refine a_ict i_Mo_load_25 (by show σ.1.1 0 3 + nI m ≤ nI 3000; rw [hl, nI_add]; exact nI_le (by omega) (by omega)) ?_
  refine a_iconst i_Mo_load_30 ?_
  refine a_istore i_Mo_load_31 rfl ?_
  have hs := ldM_s (σ := am_fi σ 0 1 0) (x := x) hl
  have key : ∀ j i, i + j = m → am_A S_m M_Mo_load (33, [some (.ref 0), some (.int (nI m)), some (.long x), none, some (.int (nI i))], [], ldM (am_fi σ 0 1 0) x len i) (am_r S_m (fun r σ' => r = some (.int 1) ∧ σ' = fgM (ldM (am_fi σ 0 1 0) x len m))) := by
    intro j
    induction j with
    | zero =>
      intro i hi
      have e : i = m := by omega
      subst e
      refine a_iload i_Mo_load_33 rfl ?_
      refine a_iload_n i_Mo_load_35 rfl ?_
      refine a_ict i_Mo_load_36 (nI_le (Nat.le_refl _) (by omega)) ?_
      refine a_aload_n i_Mo_load_73 rfl ?_
      refine am_cv (rest := []) [] c_Mo_load_74 ⟨by decide, _, rfl⟩ rfl (Nat.le_of_ble_eq_true rfl) (m_forget) (fun r9 σ9 h9 => ?_)
      obtain ⟨rfl, rfl⟩ := h9
      refine a_iconst i_Mo_load_77 ?_
      exact am_ret_z ok_Mo_load rfl rfl (Or.inr rfl) ⟨rfl, rfl⟩
    | succ j ih =>
      intro i hi
      refine a_iload i_Mo_load_33 rfl ?_
      refine a_iload_n i_Mo_load_35 rfl ?_
      refine a_icf i_Mo_load_36 (nI_ge (a := i) (b := m) (by omega) (by omega)) ?_
      refine a_aload_n i_Mo_load_39 rfl ?_
      refine a_get (v := .ref 2) i_Mo_load_40 rfl rfl ?_
      refine a_aload_n i_Mo_load_43 rfl ?_
      refine a_get (v := .int ((ldM (am_fi σ 0 1 0) x len i).1.1 0 3)) i_Mo_load_44 rfl rfl ?_
      refine a_lload_n i_Mo_load_47 rfl ?_
      refine a_bipush i_Mo_load_48 ?_
      refine a_iload i_Mo_load_50 rfl ?_
      refine a_imul i_Mo_load_52 ?_
      refine a_lshr i_Mo_load_53 ?_
      refine a_l2i i_Mo_load_54 ?_
      refine a_i2b i_Mo_load_55 ?_
      refine a_bas (n := 3000) i_Mo_load_56 rfl rfl (by rw [hs]; exact vp_in_nI (by omega) (by decide)) ?_
      refine a_aload_n i_Mo_load_57 rfl ?_
      refine a_dup_a i_Mo_load_58 ?_
      refine a_get (v := .int ((ldM (am_fi σ 0 1 0) x len i).1.1 0 3)) i_Mo_load_59 rfl rfl ?_
      refine a_iconst i_Mo_load_62 ?_
      refine a_iadd i_Mo_load_63 ?_
      refine a_puti i_Mo_load_64 rfl trivial ?_
      refine a_iinc i_Mo_load_67 rfl rfl ?_
      refine a_goto i_Mo_load_70 ?_
      rw [hs, nI_clamp (by omega), nI_1, nI_1]
      exact ih (i + 1) (by omega)
  exact key m 0 (by omega)
theorem m_find_no {σ : am_S} {x : Int64} (h : σ.1.1 0 5 = 0) : am_Mt S_m M_Mo_find [.ref 0, .long x] σ (fun r σ' => r = some (.int 0) ∧ σ' = am_fi σ 0 1 1) := by
  refine am_M_of ok_Mo_find (Nat.le_of_ble_eq_true rfl) ?_
  refine a_aload_n i_Mo_find_0 rfl ?_
  refine a_aload_n i_Mo_find_1 rfl ?_
  refine a_get (v := .int (σ.1.1 0 5)) i_Mo_find_2 rfl rfl ?_
  refine a_ift i_Mo_find_5 h ?_
  refine a_iconst i_Mo_find_12 ?_
  refine a_puti i_Mo_find_13 rfl trivial ?_
  refine a_aload_n i_Mo_find_16 rfl ?_
  refine a_get (v := .int (σ.1.1 0 5)) i_Mo_find_17 rfl rfl ?_
  refine a_iff i_Mo_find_20 h ?_
  refine a_iconst i_Mo_find_23 ?_
  exact am_ret_i ok_Mo_find rfl rfl ⟨rfl, rfl⟩
theorem m_name_no {σ : am_S} {i k : Int32} (h : ¬ (0 ≤ i ∧ i < σ.1.1 0 56)) : am_Mt S_m M_Mo_name [.ref 0, .int i, .int k] σ (fun r σ' => r = some (.int (-1)) ∧ σ' = am_fi σ 0 1 0) := by
  refine am_M_of ok_Mo_name (Nat.le_of_ble_eq_true rfl) ?_
  refine a_aload_n i_Mo_name_0 rfl ?_
  refine a_iconst i_Mo_name_1 ?_
  refine a_puti i_Mo_name_2 rfl trivial ?_
  refine a_aload_n i_Mo_name_5 rfl ?_
  refine a_iload_n i_Mo_name_6 rfl ?_
  refine am_cv (rest := []) [.int i] c_Mo_name_7 ⟨by decide, _, rfl⟩ rfl (Nat.le_of_ble_eq_true rfl) (m_isFrame) (fun r9 σ9 h9 => ?_)
  obtain ⟨rfl, rfl⟩ := h9
  have h2 : hasM (am_fi σ 0 1 0) i = 0 := if_neg h
  refine a_ift i_Mo_name_10 h2 ?_
  refine a_iconst i_Mo_name_26 ?_
  exact am_ret_i ok_Mo_name rfl rfl ⟨rfl, rfl⟩
theorem m_file_no {σ : am_S} {i k : Int32} (h : ¬ (0 ≤ i ∧ i < σ.1.1 0 56)) : am_Mt S_m M_Mo_file [.ref 0, .int i, .int k] σ (fun r σ' => r = some (.int (-1)) ∧ σ' = am_fi σ 0 1 0) := by
  refine am_M_of ok_Mo_file (Nat.le_of_ble_eq_true rfl) ?_
  refine a_aload_n i_Mo_file_0 rfl ?_
  refine a_iconst i_Mo_file_1 ?_
  refine a_puti i_Mo_file_2 rfl trivial ?_
  refine a_aload_n i_Mo_file_5 rfl ?_
  refine a_iload_n i_Mo_file_6 rfl ?_
  refine am_cv (rest := []) [.int i] c_Mo_file_7 ⟨by decide, _, rfl⟩ rfl (Nat.le_of_ble_eq_true rfl) (m_isFrame) (fun r9 σ9 h9 => ?_)
  obtain ⟨rfl, rfl⟩ := h9
  have h2 : hasM (am_fi σ 0 1 0) i = 0 := if_neg h
  refine a_ift i_Mo_file_10 h2 ?_
  refine a_iconst i_Mo_file_20 ?_
  exact am_ret_i ok_Mo_file rfl rfl ⟨rfl, rfl⟩
theorem m_line_no {σ : am_S} {i : Int32} (h : ¬ (0 ≤ i ∧ i < σ.1.1 0 56)) : am_Mt S_m M_Mo_line [.ref 0, .int i] σ (fun r σ' => r = some (.int (-1)) ∧ σ' = am_fi σ 0 1 0) := by
  refine am_M_of ok_Mo_line (Nat.le_of_ble_eq_true rfl) ?_
  refine a_aload_n i_Mo_line_0 rfl ?_
  refine a_iconst i_Mo_line_1 ?_
  refine a_puti i_Mo_line_2 rfl trivial ?_
  refine a_aload_n i_Mo_line_5 rfl ?_
  refine a_iload_n i_Mo_line_6 rfl ?_
  refine am_cv (rest := []) [.int i] c_Mo_line_7 ⟨by decide, _, rfl⟩ rfl (Nat.le_of_ble_eq_true rfl) (m_isFrame) (fun r9 σ9 h9 => ?_)
  obtain ⟨rfl, rfl⟩ := h9
  have h2 : hasM (am_fi σ 0 1 0) i = 0 := if_neg h
  refine a_iff i_Mo_line_10 h2 ?_
  refine a_iconst i_Mo_line_13 ?_
  exact am_ret_i ok_Mo_line rfl rfl ⟨rfl, rfl⟩
theorem m_isHead_no {σ : am_S} (h : σ.1.1 0 3 < 64) : am_Mt S_m M_Mo_isHead [.ref 0] σ (fun r σ' => r = some (.int 0) ∧ σ' = σ) := by
  refine am_M_of ok_Mo_isHead (Nat.le_of_ble_eq_true rfl) ?_
  refine a_aload_n i_Mo_isHead_0 rfl ?_
  refine a_get (v := .int (σ.1.1 0 3)) i_Mo_isHead_1 rfl rfl ?_
  refine a_bipush i_Mo_isHead_4 ?_
  refine a_ict i_Mo_isHead_6 h ?_
  refine a_iconst i_Mo_isHead_76 ?_
  exact am_ret_z ok_Mo_isHead rfl rfl (Or.inl rfl) ⟨rfl, rfl⟩
theorem m_readSections_no {σ : am_S} (h : σ.1.1 0 3 < 64) : am_Mt S_m M_Mo_readSections [.ref 0] σ (fun r σ' => r = some (.int 0) ∧ σ' = σ) := by
  refine am_M_of ok_Mo_readSections (Nat.le_of_ble_eq_true rfl) ?_
  refine a_aload_n i_Mo_readSections_0 rfl ?_
  refine am_cv (rest := []) [] c_Mo_readSections_1 ⟨by decide, _, rfl⟩ rfl (Nat.le_of_ble_eq_true rfl) (m_isHead_no h) (fun r9 σ9 h9 => ?_)
  obtain ⟨rfl, rfl⟩ := h9
  refine a_iff i_Mo_readSections_4 rfl ?_
  refine a_iconst i_Mo_readSections_7 ?_
  exact am_ret_z ok_Mo_readSections rfl rfl (Or.inl rfl) ⟨rfl, rfl⟩
def opM0 (σ : am_S) : am_S := am_fi (am_fi (am_fi (am_fi (am_fi (fgM σ) 0 9 0) 0 21 0) 0 22 0) 0 33 0) 0 38 0
def opM1 (σ : am_S) : am_S := am_fi (am_fi (am_fi (opM0 σ) 0 4 1) 0 5 0) 0 1 1
theorem m_open_no {σ : am_S} (h : σ.1.1 0 3 < 64) : am_Mt S_m M_Mo_open [.ref 0] σ (fun r σ' => r = some (.int 0) ∧ σ' = opM1 σ) := by
  refine am_M_of ok_Mo_open (Nat.le_of_ble_eq_true rfl) ?_
  refine a_aload_n i_Mo_open_0 rfl ?_
  refine am_cv (rest := []) [] c_Mo_open_1 ⟨by decide, _, rfl⟩ rfl (Nat.le_of_ble_eq_true rfl) (m_forget) (fun r9 σ9 h9 => ?_)
  obtain ⟨rfl, rfl⟩ := h9
  refine a_aload_n i_Mo_open_4 rfl ?_
  refine a_iconst i_Mo_open_5 ?_
  refine a_puti i_Mo_open_6 rfl trivial ?_
  refine a_aload_n i_Mo_open_9 rfl ?_
  refine a_iconst i_Mo_open_10 ?_
  refine a_puti i_Mo_open_11 rfl trivial ?_
  refine a_aload_n i_Mo_open_14 rfl ?_
  refine a_iconst i_Mo_open_15 ?_
  refine a_puti i_Mo_open_16 rfl trivial ?_
  refine a_aload_n i_Mo_open_19 rfl ?_
  refine a_iconst i_Mo_open_20 ?_
  refine a_puti i_Mo_open_21 rfl trivial ?_
  refine a_aload_n i_Mo_open_24 rfl ?_
  refine a_iconst i_Mo_open_25 ?_
  refine a_puti i_Mo_open_26 rfl trivial ?_
  refine a_aload_n i_Mo_open_29 rfl ?_
  refine a_aload_n i_Mo_open_30 rfl ?_
  refine am_cv (rest := [.ref 0]) [] c_Mo_open_31 ⟨by decide, _, rfl⟩ rfl (Nat.le_of_ble_eq_true rfl) (m_readSections_no h) (fun r9 σ9 h9 => ?_)
  obtain ⟨rfl, rfl⟩ := h9
  refine a_iff i_Mo_open_34 rfl ?_
  refine a_iconst i_Mo_open_37 ?_
  refine a_goto i_Mo_open_38 ?_
  refine a_puti i_Mo_open_86 rfl trivial ?_
  refine a_aload_n i_Mo_open_89 rfl ?_
  refine a_aload_n i_Mo_open_90 rfl ?_
  refine a_get (v := .int 1) i_Mo_open_91 rfl rfl ?_
  refine a_ift i_Mo_open_94 (by show ¬ (1 : Int32) = 0; decide) ?_
  refine a_iconst i_Mo_open_101 ?_
  refine a_puti i_Mo_open_102 rfl (Or.inl rfl) ?_
  refine a_aload_n i_Mo_open_105 rfl ?_
  refine a_aload_n i_Mo_open_106 rfl ?_
  refine a_get (v := .int 0) i_Mo_open_107 rfl rfl ?_
  refine a_ift i_Mo_open_110 rfl ?_
  refine a_iconst i_Mo_open_117 ?_
  refine a_puti i_Mo_open_118 rfl trivial ?_
  refine a_aload_n i_Mo_open_121 rfl ?_
  refine a_get (v := .int 0) i_Mo_open_122 rfl rfl ?_
  refine a_ift i_Mo_open_125 rfl ?_
  refine a_iconst i_Mo_open_135 ?_
  exact am_ret_i ok_Mo_open rfl rfl ⟨rfl, rfl⟩
