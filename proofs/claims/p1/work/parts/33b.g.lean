theorem f_name_no {σ : am_S} {i k : Int32} (h : ¬ (0 ≤ i ∧ i < σ.1.1 58 11)) : am_Mt S_c M_F_name [.ref 0, .int i, .int k] σ (fun r σ' => r = some (.int (-1)) ∧ σ' = σ) := by
  refine am_M_of ok_F_name (Nat.le_of_ble_eq_true rfl) ?_
  refine a_aload_n i_F_name_0 rfl ?_
  refine a_get (v := .ref 58) i_F_name_1 rfl rfl ?_
  refine a_iload_n i_F_name_4 rfl ?_
  refine am_cv (rest := []) [.int i] c_F_name_5 ⟨by decide, _, rfl⟩ rfl (Nat.le_of_ble_eq_true rfl) (fr_has) (fun r9 σ9 h9 => ?_)
  obtain ⟨e8, e9⟩ := h9
  rw [e8, e9]
  have h2 : hasC σ i = 0 := if_neg h
  refine a_ift i_F_name_8 h2 ?_
  refine a_iconst i_F_name_37 ?_
  exact am_ret_i ok_F_name rfl rfl ⟨rfl, rfl⟩
theorem f_file_no {σ : am_S} {i k : Int32} (h : ¬ (0 ≤ i ∧ i < σ.1.1 58 11)) : am_Mt S_c M_F_file [.ref 0, .int i, .int k] σ (fun r σ' => r = some (.int (-1)) ∧ σ' = σ) := by
  refine am_M_of ok_F_file (Nat.le_of_ble_eq_true rfl) ?_
  refine a_aload_n i_F_file_0 rfl ?_
  refine a_get (v := .ref 58) i_F_file_1 rfl rfl ?_
  refine a_iload_n i_F_file_4 rfl ?_
  refine am_cv (rest := []) [.int i] c_F_file_5 ⟨by decide, _, rfl⟩ rfl (Nat.le_of_ble_eq_true rfl) (fr_has) (fun r9 σ9 h9 => ?_)
  obtain ⟨e8, e9⟩ := h9
  rw [e8, e9]
  have h2 : hasC σ i = 0 := if_neg h
  refine a_ift i_F_file_8 h2 ?_
  refine a_iconst i_F_file_37 ?_
  exact am_ret_i ok_F_file rfl rfl ⟨rfl, rfl⟩
theorem f_line_no {σ : am_S} {i : Int32} (h : ¬ (0 ≤ i ∧ i < σ.1.1 58 11)) : am_Mt S_c M_F_line [.ref 0, .int i] σ (fun r σ' => r = some (.int (-1)) ∧ σ' = σ) := by
  refine am_M_of ok_F_line (Nat.le_of_ble_eq_true rfl) ?_
  refine a_aload_n i_F_line_0 rfl ?_
  refine a_get (v := .ref 58) i_F_line_1 rfl rfl ?_
  refine a_iload_n i_F_line_4 rfl ?_
  refine am_cv (rest := []) [.int i] c_F_line_5 ⟨by decide, _, rfl⟩ rfl (Nat.le_of_ble_eq_true rfl) (fr_has) (fun r9 σ9 h9 => ?_)
  obtain ⟨e8, e9⟩ := h9
  rw [e8, e9]
  have h2 : hasC σ i = 0 := if_neg h
  refine a_ift i_F_line_8 h2 ?_
  refine a_iconst i_F_line_23 ?_
  exact am_ret_i ok_F_line rfl rfl ⟨rfl, rfl⟩
theorem se_readHead_no {σ : am_S} {n : Int32} (h : n < 64) : am_Mt S_c M_Se_readHead [.ref 2, .int n] σ (fun r σ' => r = some (.int 0) ∧ σ' = σ) := by
  refine am_M_of ok_Se_readHead (Nat.le_of_ble_eq_true rfl) ?_
  refine a_iload_n i_Se_readHead_0 rfl ?_
  refine a_bipush i_Se_readHead_1 ?_
  refine a_icf i_Se_readHead_3 (by show ¬ 64 ≤ n; rw [Int32.not_le]; exact h) ?_
  refine a_iconst i_Se_readHead_6 ?_
  exact am_ret_z ok_Se_readHead rfl rfl (Or.inl rfl) ⟨rfl, rfl⟩
theorem se_read_no {σ : am_S} {n : Int32} (h : n < 64) : am_Mt S_c M_Se_read [.ref 2, .int n] σ (fun r σ' => r = some (.int 0) ∧ σ' = σ) := by
  refine am_M_of ok_Se_read (Nat.le_of_ble_eq_true rfl) ?_
  refine a_aload_n i_Se_read_0 rfl ?_
  refine a_iload_n i_Se_read_1 rfl ?_
  refine am_cv (rest := []) [.int n] c_Se_read_2 ⟨by decide, _, rfl⟩ rfl (Nat.le_of_ble_eq_true rfl) (se_readHead_no h) (fun r9 σ9 h9 => ?_)
  obtain ⟨e8, e9⟩ := h9
  rw [e8, e9]
  refine a_iff i_Se_read_5 rfl ?_
  refine a_iconst i_Se_read_8 ?_
  exact am_ret_z ok_Se_read rfl rfl (Or.inl rfl) ⟨rfl, rfl⟩
def th_1 (a : Cond) : Bool := (decide (a ∈ lw_tbl) && (goodWord a || am_nest a)) || (decide (a = .isRef (.static Bundle.tN "UNASSIGNED_STACK" Bundle.steD)) || (decide (a = .isRef (.static Bundle.tN "SUPPRESSED_SENTINEL" Bundle.listD)) || (decide (a = .laysStatic Bundle.tN "UNASSIGNED_STACK" Bundle.steD) || decide (a = .laysStatic Bundle.tN "SUPPRESSED_SENTINEL" Bundle.listD))))
theorem th_ok {l : List Cond} (h : l.all th_1 = true) : ∀ a ∈ l, th_q S_c a := by
  intro a ha
  have h1 := List.all_eq_true.mp h a ha
  unfold th_1 at h1
  simp only [Bool.or_eq_true, Bool.and_eq_true, decide_eq_true_eq] at h1
  rcases h1 with ⟨h1, h2 | h2⟩ | h1
  · exact Or.inl (by rw [ht_c]; exact List.mem_filter.mpr ⟨h1, h2⟩)
  · exact Or.inr (Or.inl (by rw [hn_c]; exact List.mem_filter.mpr ⟨h1, h2⟩))
  · exact Or.inr (Or.inr h1)
theorem th_w {w : Cond} (h : (decide (w ∈ lw_tbl) && goodWord w) = true) : w ∈ am_tw S_c := by
  simp only [Bool.and_eq_true, decide_eq_true_eq] at h
  rw [ht_c]
  exact List.mem_filter.mpr h
set_option maxRecDepth 100000 in
theorem th_iae : ∀ a ∈ Bundle.ownAtoms0 (am_yl M_F_open).1 110 "java/lang/IllegalArgumentException" th_nm, th_q S_c a := th_ok (by decide +kernel)
set_option maxRecDepth 100000 in
theorem th_ise : ∀ a ∈ Bundle.ownAtoms0 (am_yl M_F_find).1 127 "java/lang/IllegalStateException" th_nm, th_q S_c a := th_ok (by decide +kernel)
theorem f_throw_iae {L : List (Option Value)} {σ : am_S} {post : Option Value → am_S → Prop} {postT : am_S → Prop} (hp : postT σ) : am_A S_c M_F_open (107, L, [], σ) (am_tF S_c post postT "java/lang/IllegalArgumentException") :=
  am_throw (jn := 108) (ic := 110) sys_c ok_F_open rfl rfl rfl rfl (by decide +kernel) (th_w (by decide +kernel)) (th_w (by decide +kernel)) (th_w (by decide +kernel)) th_iae (List.mem_of_getElem? (i := 0) rfl) (List.mem_of_getElem? (i := 1) rfl) rfl (by decide) (by decide) (by decide) (by decide) hp
theorem f_throw_ise {L : List (Option Value)} {σ : am_S} {post : Option Value → am_S → Prop} {postT : am_S → Prop} (hp : postT σ) : am_A S_c M_F_find (7, L, [], σ) (am_tF S_c post postT "java/lang/IllegalStateException") :=
  am_throw (jn := 125) (ic := 127) sys_c ok_F_find rfl rfl rfl rfl (by decide +kernel) (th_w (by decide +kernel)) (th_w (by decide +kernel)) (th_w (by decide +kernel)) th_ise (List.mem_of_getElem? (i := 0) rfl) (List.mem_of_getElem? (i := 1) rfl) rfl (by decide) (by decide) (by decide) (by decide) hp
theorem f_find_no {σ : am_S} {x : Int64} {post : Option Value → am_S → Prop} (h : σ.1.1 0 11 = 0) : am_MtT S_c M_F_find [.ref 0, .long x] σ post (fun σ' => σ' = σ) "java/lang/IllegalStateException" := by
  refine am_MT_of ok_F_find (Nat.le_of_ble_eq_true rfl) ?_
  refine a_aload_n i_F_find_0 rfl ?_
  refine a_get (v := .int (σ.1.1 0 11)) i_F_find_1 rfl rfl ?_
  refine a_iff i_F_find_4 h ?_
  exact f_throw_ise rfl
def opC1 (σ : am_S) : am_S := am_fi (am_fi (fgC σ) 0 12 0) 0 12 1
theorem f_open_no {σ : am_S} {post : Option Value → am_S → Prop} (h : σ.1.1 0 10 < 64) : am_MtT S_c M_F_open [.ref 0] σ post (fun σ' => σ' = opC1 σ) "java/lang/IllegalArgumentException" := by
  refine am_MT_of ok_F_open (Nat.le_of_ble_eq_true rfl) ?_
  refine a_aload_n i_F_open_0 rfl ?_
  refine am_cv (rest := []) [] c_F_open_1 ⟨by decide, _, rfl⟩ rfl (Nat.le_of_ble_eq_true rfl) (f_forget) (fun r9 σ9 h9 => ?_)
  obtain ⟨rfl, rfl⟩ := h9
  refine a_aload_n i_F_open_4 rfl ?_
  refine a_iconst i_F_open_5 ?_
  refine a_puti i_F_open_6 rfl trivial ?_
  refine a_aload_n i_F_open_9 rfl ?_
  refine a_get (v := .ref 2) i_F_open_10 rfl rfl ?_
  refine a_aload_n i_F_open_13 rfl ?_
  refine a_get (v := .int ((fgC σ).1.1 0 10)) i_F_open_14 rfl rfl ?_
  refine am_cv (rest := []) [.int ((fgC σ).1.1 0 10)] c_F_open_17 ⟨by decide, _, rfl⟩ rfl (Nat.le_of_ble_eq_true rfl) (se_read_no h) (fun r9 σ9 h9 => ?_)
  obtain ⟨rfl, rfl⟩ := h9
  refine a_iff i_F_open_20 rfl ?_
  refine a_aload_n i_F_open_23 rfl ?_
  refine a_iconst i_F_open_24 ?_
  refine a_puti i_F_open_25 rfl trivial ?_
  refine a_goto i_F_open_28 ?_
  refine a_aload_n i_F_open_100 rfl ?_
  refine a_get (v := .int 1) i_F_open_101 rfl rfl ?_
  refine a_iff i_F_open_104 (by show ¬ (1 : Int32) = 0; decide) ?_
  exact f_throw_iae rfl
