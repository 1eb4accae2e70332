/-! bytes and numbers -/
def by8 (f : Nat → Int32) (j : Nat) : Nat := (f j).toBitVec.toNat % 256
theorem by8_lt (f : Nat → Int32) (j : Nat) : by8 f j < 256 := Nat.mod_lt _ (by decide)
theorem by8_and (f : Nat → Int32) (j : Nat) : f j &&& 255 = nI (by8 f j) := pk_and (f j) 8 (by decide)
def num (f : Nat → Int32) : Nat → Nat → Nat
  | _, 0 => 0
  | p, m + 1 => by8 f p + 256 * num f (p + 1) m
theorem num_lt (f : Nat → Int32) : ∀ (m p : Nat), num f p m < 256 ^ m
  | 0, p => by simp [num]
  | m + 1, p => by
    have h1 := num_lt f m (p + 1)
    have h2 := by8_lt f p
    simp only [num]
    rw [Nat.pow_succ]
    omega
theorem pw8 {m : Nat} (h : m ≤ 8) : 256 ^ m ≤ 18446744073709551616 := by
  have := Nat.pow_le_pow_right (n := 256) (by decide) h
  exact Nat.le_trans this (by decide)
theorem num_64 {f : Nat → Int32} {p m : Nat} (h : m ≤ 8) : num f p m < 18446744073709551616 := Nat.lt_of_lt_of_le (num_lt f m p) (pw8 h)
theorem num_step {f : Nat → Int32} {p m : Nat} (h : m + 1 ≤ 8) : lN (num f (p + 1) m) <<< ((8 : Int32).toInt64 &&& 63) ||| (f p &&& 255).toInt64 = lN (num f p (m + 1)) := by
  have h1 := num_64 (f := f) (p := p + 1) (m := m) (by omega)
  have h2 := by8_lt f p
  have h3 := num_64 (f := f) (p := p) (m := m + 1) h
  rw [by8_and, nI_l (by omega), g_shl (k := 8) (p := 256) (by decide) (by decide) (by decide) (by simpa using h1)]
  simp only [num] at h3 ⊢
  rw [g_or (k := 8) (p := 256) (by decide) h2 (by simp; omega)]
  congr 1
  omega
/-! the cursors -/
def cu (k : Nat) : Prop := k < 65 ∧ sh_c k = .inr (2, [some (some 1), none, none, none])
def cu_ks : List am_K := [some (some 1), none, none, none]
def cu_b (j kind : Nat) : Bool := match cu_ks[j]? with
  | some kd => am_kk kd kind
  | none => false
theorem cu.has {k j kind : Nat} (h : cu k) (hb : cu_b j kind = true) : am_has (am_sh S_c) (am_nw S_c) k 2 j kind = true := by
  unfold am_has
  rw [show am_sh S_c k = .inr (2, cu_ks) from h.2, Bool.and_eq_true]
  refine ⟨decide_eq_true h.1, ?_⟩
  simp only [Bool.and_eq_true]
  exact ⟨rfl, hb⟩
theorem cu.im {k : Nat} (h : cu k) : am_rf (am_sh S_c) k 0 = 1 := by
  unfold am_rf
  rw [show am_sh S_c k = .inr (2, cu_ks) from h.2]
  rfl
theorem cu_set {k : Nat} {σ : am_S} {a b : Int32} (hk : cu k) : am_Mt S_c M_Cu_set [.ref k, .int a, .int b] σ (fun r σ' => r = none ∧ σ' = am_fi (am_fi (am_fi σ k 1 a) k 2 b) k 3 0) := by
  refine am_M_of ok_Cu_set (Nat.le_of_ble_eq_true rfl) ?_
  refine a_aload_n i_Cu_set_0 rfl ?_
  refine a_iload_n i_Cu_set_1 rfl ?_
  refine a_puti i_Cu_set_2 (hk.has rfl) trivial ?_
  refine a_aload_n i_Cu_set_5 rfl ?_
  refine a_iload_n i_Cu_set_6 rfl ?_
  refine a_puti i_Cu_set_7 (hk.has rfl) trivial ?_
  refine a_aload_n i_Cu_set_10 rfl ?_
  refine a_iconst i_Cu_set_11 ?_
  refine a_puti i_Cu_set_12 (hk.has rfl) (Or.inl rfl) ?_
  exact am_ret_v ok_Cu_set rfl rfl ⟨rfl, rfl⟩
def cu_nump (σ : am_S) (k p q m : Nat) (r : Option Value) (σ' : am_S) : Prop := (σ.1.1 k 3 = 0 ∧ p + m ≤ q → r = some (.long (lN (num (σ.2.1 1) p m))) ∧ σ' = am_fi σ k 1 (nI (p + m))) ∧ (¬ (σ.1.1 k 3 = 0 ∧ p + m ≤ q) → r = some (.long 0) ∧ σ' = am_fi σ k 3 1)
set_option maxHeartbeats 4000000 in
theorem cu_number {k p q m : Nat} {σ : am_S} (hk : cu k) (h1 : σ.1.1 k 1 = nI p) (h2 : σ.1.1 k 2 = nI q) (hpq : p ≤ q) (hq : q ≤ 3000) (hm : 1 ≤ m) (hm8 : m ≤ 8) : am_Mt S_c M_Cu_number [.ref k, .int (nI m)] σ (cu_nump σ k p q m) := by
  refine am_M_of ok_Cu_number (Nat.le_of_ble_eq_true rfl) ?_
  have him := hk.im
  by_cases hb : σ.1.1 k 3 = 0
  · by_cases hl : p + m ≤ q
    · refine a_aload_n i_Cu_number_0 rfl ?_
      refine a_get (v := .int (σ.1.1 k 3)) i_Cu_number_1 (hk.has rfl) rfl ?_
      refine a_iff i_Cu_number_4 hb ?_
      refine a_aload_n i_Cu_number_7 rfl ?_
      refine a_get (v := .int (σ.1.1 k 2)) i_Cu_number_8 (hk.has rfl) rfl ?_
      refine a_aload_n i_Cu_number_11 rfl ?_
      refine a_get (v := .int (σ.1.1 k 1)) i_Cu_number_12 (hk.has rfl) rfl ?_
      refine a_isub i_Cu_number_15 ?_
      refine a_iload_n i_Cu_number_16 rfl ?_
      refine a_ict i_Cu_number_17 (by show nI m ≤ σ.1.1 k 2 - σ.1.1 k 1; rw [h1, h2, pk_sub hpq]; exact nI_le (by omega) (by omega)) ?_
      refine a_lconst i_Cu_number_27 ?_
      refine a_lstore_n i_Cu_number_28 rfl ?_
      refine a_iload_n i_Cu_number_29 rfl ?_
      refine a_iconst i_Cu_number_30 ?_
      refine a_isub i_Cu_number_31 ?_
      refine a_istore i_Cu_number_32 rfl ?_
      have key : ∀ i, i ≤ m → am_A S_c M_Cu_number (34, [some (.ref k), some (.int (nI m)), some (.long (lN (num (σ.2.1 1) (p + i) (m - i)))), none, some (.int (nI i + (-1)))], [], σ) (am_r S_c (cu_nump σ k p q m)) := by
        intro i
        induction i with
        | zero =>
          intro _
          refine a_iload i_Cu_number_34 rfl ?_
          refine a_ift i_Cu_number_36 (by show nI 0 + (-1) < 0; decide) ?_
          refine a_aload_n i_Cu_number_68 rfl ?_
          refine a_dup_a i_Cu_number_69 ?_
          refine a_get (v := .int (σ.1.1 k 1)) i_Cu_number_70 (hk.has rfl) rfl ?_
          refine a_iload_n i_Cu_number_73 rfl ?_
          refine a_iadd i_Cu_number_74 ?_
          refine a_puti i_Cu_number_75 (hk.has rfl) trivial ?_
          refine a_lload_n i_Cu_number_78 rfl ?_
          rw [h1, nI_add, Nat.add_zero, Nat.sub_zero]
          exact am_ret_l ok_Cu_number rfl rfl ⟨fun _ => ⟨rfl, rfl⟩, fun h => absurd ⟨hb, hl⟩ h⟩
        | succ i ih =>
          intro hi
          have e : nI (i + 1) + (-1) = nI i := pk_m1 i
          rw [e]
          refine a_iload i_Cu_number_34 rfl ?_
          refine a_iff i_Cu_number_36 (nI_pos (by omega)) ?_
          refine a_lload_n i_Cu_number_39 rfl ?_
          refine a_bipush i_Cu_number_40 ?_
          refine a_lshl i_Cu_number_42 ?_
          refine a_aload_n i_Cu_number_43 rfl ?_
          refine a_get (v := .ref (am_rf (am_sh S_c) k 0)) i_Cu_number_44 (hk.has rfl) rfl ?_
          refine a_aload_n i_Cu_number_47 rfl ?_
          refine a_get (v := .int (σ.1.1 k 1)) i_Cu_number_48 (hk.has rfl) rfl ?_
          refine a_iload i_Cu_number_51 rfl ?_
          refine a_iadd i_Cu_number_53 ?_
          refine a_bal (n := 3000) i_Cu_number_54 (by rw [him]; rfl) (by rw [him]; rfl) (by rw [h1, nI_add]; exact vp_in_nI (by omega) (by decide)) ?_
          refine a_sipush i_Cu_number_55 ?_
          refine a_iand i_Cu_number_58 ?_
          refine a_i2l i_Cu_number_59 ?_
          refine a_lor i_Cu_number_60 ?_
          refine a_lstore_n i_Cu_number_61 rfl ?_
          refine a_iinc i_Cu_number_62 rfl rfl ?_
          refine a_goto i_Cu_number_65 ?_
          rw [him, h1, nI_add, nI_clamp (by omega), show p + (i + 1) = p + i + 1 by omega, num_step (by omega), show m - (i + 1) + 1 = m - i by omega]
          exact ih (by omega)
      have h0 := key m (Nat.le_refl _)
      rw [Nat.sub_self] at h0
      rw [Int32.sub_eq_add_neg]
      exact h0
    · refine a_aload_n i_Cu_number_0 rfl ?_
      refine a_get (v := .int (σ.1.1 k 3)) i_Cu_number_1 (hk.has rfl) rfl ?_
      refine a_iff i_Cu_number_4 hb ?_
      refine a_aload_n i_Cu_number_7 rfl ?_
      refine a_get (v := .int (σ.1.1 k 2)) i_Cu_number_8 (hk.has rfl) rfl ?_
      refine a_aload_n i_Cu_number_11 rfl ?_
      refine a_get (v := .int (σ.1.1 k 1)) i_Cu_number_12 (hk.has rfl) rfl ?_
      refine a_isub i_Cu_number_15 ?_
      refine a_iload_n i_Cu_number_16 rfl ?_
      refine a_icf i_Cu_number_17 (by show ¬ nI m ≤ σ.1.1 k 2 - σ.1.1 k 1; rw [h1, h2, pk_sub hpq]; exact nI_ge (by omega) (by omega)) ?_
      refine a_aload_n i_Cu_number_20 rfl ?_
      refine a_iconst i_Cu_number_21 ?_
      refine a_puti i_Cu_number_22 (hk.has rfl) (Or.inr rfl) ?_
      refine a_lconst i_Cu_number_25 ?_
      exact am_ret_l ok_Cu_number rfl rfl ⟨fun h => absurd h.2 hl, fun _ => ⟨rfl, rfl⟩⟩
  · refine a_aload_n i_Cu_number_0 rfl ?_
    refine a_get (v := .int (σ.1.1 k 3)) i_Cu_number_1 (hk.has rfl) rfl ?_
    refine a_ift i_Cu_number_4 hb ?_
    refine a_aload_n i_Cu_number_20 rfl ?_
    refine a_iconst i_Cu_number_21 ?_
    refine a_puti i_Cu_number_22 (hk.has rfl) (Or.inr rfl) ?_
    refine a_lconst i_Cu_number_25 ?_
    exact am_ret_l ok_Cu_number rfl rfl ⟨fun h => absurd h.1 hb, fun _ => ⟨rfl, rfl⟩⟩
