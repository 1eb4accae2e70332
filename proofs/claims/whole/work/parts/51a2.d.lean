/-! functions out of bytecode: what their texts are made of (dec.py) -/
def inb (i : Int32) (n : Nat) : Bool := decide (¬ (i < 0 ∨ n ≤ i.toNatClampNeg))
theorem inb_in {i : Int32} {n : Nat} (h : inb i n = true) : vp_in i n := of_decide_eq_true (p := ¬ (i < 0 ∨ n ≤ i.toNatClampNeg)) h
def z01 (v : Int32) : Bool := decide (v = 0 ∨ v = 1)
theorem z01_or {v : Int32} (h : z01 v = true) : v = 0 ∨ v = 1 := of_decide_eq_true h
def am_bd {α β : Type} (o : Option (α × am_S)) (f : α → am_S → Option β) : Option β := match o with
  | some (v, s) => f v s
  | none => none
theorem am_bd_some {α β : Type} {o : Option (α × am_S)} {f : α → am_S → Option β} {b : β} (h : am_bd o f = some b) : ∃ v s, o = some (v, s) ∧ f v s = some b := by
  unfold am_bd at h
  split at h
  · rename_i v s
    exact ⟨v, s, rfl, h⟩
  · cases h
def am_gd {α : Type} (c : Bool) (A : Option α) : Option α := if c = true then A else none
theorem gd_some {α : Type} {c : Bool} {A : Option α} {b : α} (h : am_gd c A = some b) : c = true ∧ A = some b := by
  unfold am_gd at h
  by_cases hp : c = true
  · rw [if_pos hp] at h; exact ⟨hp, h⟩
  · rw [if_neg hp] at h; cases h
theorem am_lf_i {v r : Int32} {σ σ' : am_S} (h : some (v, σ) = some (r, σ')) : (some (Value.int v) = some (.int r)) ∧ σ = σ' := by cases h; exact ⟨rfl, rfl⟩
theorem am_lf_l {v r : Int64} {σ σ' : am_S} (h : some (v, σ) = some (r, σ')) : (some (Value.long v) = some (.long r)) ∧ σ = σ' := by cases h; exact ⟨rfl, rfl⟩
theorem am_lf_v {r : Unit} {σ σ' : am_S} (h : some ((), σ) = some (r, σ')) : (none : Option Value) = none ∧ σ = σ' := by cases h; exact ⟨rfl, rfl⟩
def am_lw : List (Option Value) → List (Option Value) → Prop
  | [], [] => True
  | a :: r, b :: r' => (b = none ∨ b = a) ∧ am_lw r r'
  | _, _ => False
theorem am_lw_len : ∀ (L L' : List (Option Value)), am_lw L L' → L'.length = L.length
  | [], [], _ => rfl
  | _ :: r, _ :: r', h => by simp [am_lw_len r r' h.2]
  | [], _ :: _, h => by cases h
  | _ :: _, [], h => by cases h
theorem am_lw_at : ∀ (L L' : List (Option Value)), am_lw L L' → ∀ (i : Nat) (v : Value), L'[i]? = some (some v) → L[i]? = some (some v)
  | [], [], _, i, v, h => h
  | a :: r, b :: r', hw, 0, v, h => by
    rcases hw.1 with e | e
    · rw [e] at h; simp at h
    · rw [e] at h; exact h
  | a :: r, b :: r', hw, i + 1, v, h => by
    simp only [List.getElem?_cons_succ] at h ⊢
    exact am_lw_at r r' hw.2 i v h
  | [], _ :: _, hw, _, _, _ => by cases hw
  | _ :: _, [], hw, _, _, _ => by cases hw
theorem am_wk {S : am_Sy} {M : am_Me} {pc : Nat} {L L' : List (Option Value)} {st : List Value} {σ : am_S} {F : am_Fn} (k : am_A S M (pc, L', st, σ) F) (hw : am_lw L L') : am_A S M (pc, L, st, σ) F := by
  intro p l e s m args below meth c H locs ls D ca ρ A hl9 hx hb hml hne hr hlk hown hts hX hA hR hL hlen
  exact k p l e s m args below meth c H locs ls D ca ρ A hl9 hx hb hml hne hr hlk hown hts hX hA hR ⟨hL.1.trans (am_lw_len _ _ hw).symm, hL.2.1, fun i v h => hL.2.2 i v (am_lw_at _ _ hw i v h)⟩ ((am_lw_len _ _ hw).trans hlen)
theorem am_cvd {S : am_Sy} {M M2 : am_Me} {pc n ci k : Nat} {L : List (Option Value)} {rest : List Value} {σ σ1 : am_S} {F : am_Fn} {r : Option Value} (as : List Value) (c : am_V S M M2 pc n ci) (hk : am_is S k ci) (hn : as.length = n) (hw : (rest.map Value.category).sum ≤ 8) (hM2 : am_Mt S M2 (.ref k :: as) σ (fun q τ => q = r ∧ τ = σ1))
    (kk : am_A S M (pc + 3, L, r.toList ++ rest, σ1) F) : am_A S M (pc, L, as.reverse ++ .ref k :: rest, σ) F :=
  am_cv as c hk hn hw hM2 (fun r9 σ9 h9 => by obtain ⟨e1, e2⟩ := h9; rw [e1, e2]; exact kk)
theorem am_csd {S : am_Sy} {M M2 : am_Me} {pc n : Nat} {L : List (Option Value)} {rest : List Value} {σ σ1 : am_S} {F : am_Fn} {r : Option Value} (as : List Value) (c : am_T S M M2 pc n) (hn : as.length = n) (hw : (rest.map Value.category).sum ≤ 8) (hM2 : am_Mt S M2 as σ (fun q τ => q = r ∧ τ = σ1))
    (kk : am_A S M (pc + 3, L, r.toList ++ rest, σ1) F) : am_A S M (pc, L, as.reverse ++ rest, σ) F :=
  am_cs' as c hn hw hM2 (fun r9 σ9 h9 => by obtain ⟨e1, e2⟩ := h9; rw [e1, e2]; exact kk)
def tab_ok (lo df : Int) (ex : List Int) (os : Array Int) : Bool := (List.range os.size).all (fun j => decide (os[j]? = some df) || ex.contains (lo + (j : Int)))
theorem a_tabn {S : am_Sy} {M : am_Me} {pc t len : Nat} {L : List (Option Value)} {r : List Value} {σ : am_S} {F : am_Fn} {x : am_X} {df lo hi : Int} {os : Array Int} {a : Int32} (ex : List Int) (i : am_I1 S M pc len (.tableswitch df lo hi os) x) (hg : (pc : Int) + df = (t : Int)) (hs : lo + (os.size : Int) = hi + 1) (ho : tab_ok lo df ex os = true) (he : ∀ c ∈ ex, ¬ a.toInt = c) (k : am_A S M (t, L, r, σ) F) : am_A S M (pc, L, .int a :: r, σ) F := by
  by_cases h : a.toInt < lo ∨ hi < a.toInt
  · exact a_tabd i h hg k
  · have h1 : lo ≤ a.toInt := by omega
    have h2 : a.toInt ≤ hi := by omega
    have hj : (a.toInt - lo).toNat < os.size := by omega
    have hv : a.toInt = lo + (((a.toInt - lo).toNat : Nat) : Int) := by omega
    have ha := List.all_eq_true.mp ho (a.toInt - lo).toNat (List.mem_range.mpr hj)
    rw [Bool.or_eq_true] at ha
    rcases ha with ha | ha
    · exact a_tab (a.toInt - lo).toNat i (of_decide_eq_true ha) hv (by omega) hg k
    · exact absurd hv (he _ (by simpa using ha))
theorem lks_n : ∀ (ps : List (Int × Int)) (d x : Int), (∀ p ∈ ps, ¬ x = p.1) → Op.lookupswitch.offset ps d x = d
  | [], d, x, _ => rfl
  | p :: ps, d, x, h => by
    obtain ⟨a, o⟩ := p
    rw [Op.lookupswitch.offset_cons, if_neg (fun q => h (a, o) List.mem_cons_self (by first | exact q | exact q.symm))]
    exact lks_n ps d x (fun q hq => h q (List.mem_cons_of_mem _ hq))
theorem cu_is {k : Nat} (h : cu k) : am_is S_c k 2 := ⟨h.1, _, h.2⟩
theorem cu_9 : cu 9 := ⟨by decide, rfl⟩
theorem cu_30 : cu 30 := ⟨by decide, rfl⟩
theorem cu_31 : cu 31 := ⟨by decide, rfl⟩
theorem cu_38 : cu 38 := ⟨by decide, rfl⟩
theorem cu_39 : cu 39 := ⟨by decide, rfl⟩
theorem cu_51 : cu 51 := ⟨by decide, rfl⟩
theorem cu_57 : cu 57 := ⟨by decide, rfl⟩
def g_Cu_text_49 (k : Nat) (x1 : Int32) (σ : am_S) : Option (Int32 × am_S) :=
  some (x1, am_fi σ k 3 1)
set_option maxHeartbeats 4000000 in
theorem t_Cu_text_49 {k : Nat} {x1 : Int32} {σ σ' : am_S} {r : Int32} (hk : cu k) (h : g_Cu_text_49 k x1 σ = some (r, σ')) : am_A S_c M_Cu_text (49, [some (.ref k), some (.int x1), none], [], σ) (am_r S_c (fun q τ => q = some (.int r) ∧ τ = σ')) := by
  unfold g_Cu_text_49 at h
  refine a_aload_n i_Cu_text_49 rfl ?_
  refine a_iconst i_Cu_text_50 ?_
  refine a_puti i_Cu_text_51 (hk.has rfl) (Or.inr rfl) ?_
  refine a_iload_n i_Cu_text_54 rfl ?_
  exact am_ret_i ok_Cu_text rfl rfl (am_lf_i h)
def g_Cu_text_10 : Nat → Nat → Int32 → Int32 → am_S → Option (Int32 × am_S)
  | 0, _, _, _, _ => none
  | n + 1, k, x1, x2, σ =>
  if x2 < (σ.1.1 k 2) then
    if (σ.1.1 k 3) = 0 then
      am_gd (inb x2 3000) <|
      if (σ.2.1 1 x2.toNatClampNeg) = 0 then
        some (x1, am_fi σ k 1 (x2 + 1))
      else
        g_Cu_text_10 n k x1 (x2 + 1) σ
    else
      g_Cu_text_49 k x1 σ
  else
    g_Cu_text_49 k x1 σ
set_option maxHeartbeats 4000000 in
theorem t_Cu_text_10 : ∀ (n : Nat) {k : Nat} {x1 : Int32} {x2 : Int32} {σ σ' : am_S} {r : Int32} (hk : cu k) (h : g_Cu_text_10 n k x1 x2 σ = some (r, σ')), am_A S_c M_Cu_text (10, [some (.ref k), some (.int x1), some (.int x2)], [], σ) (am_r S_c (fun q τ => q = some (.int r) ∧ τ = σ')) := by
  intro n
  induction n with
  | zero =>
    intro k x1 x2 σ σ' r hk h
    cases h
  | succ n ih =>
  intro k x1 x2 σ σ' r hk h
  unfold g_Cu_text_10 at h
  refine a_iload_n i_Cu_text_10 rfl ?_
  refine a_aload_n i_Cu_text_11 rfl ?_
  refine a_get (v := .int (σ.1.1 k 2)) i_Cu_text_12 (hk.has rfl) rfl ?_
  by_cases c4 : x2 < (σ.1.1 k 2)
  · rw [if_pos c4] at h
    refine a_icf i_Cu_text_15 (Int32.not_le.mpr c4) ?_
    refine a_aload_n i_Cu_text_18 rfl ?_
    refine a_get (v := .int (σ.1.1 k 3)) i_Cu_text_19 (hk.has rfl) rfl ?_
    by_cases c7 : (σ.1.1 k 3) = 0
    · rw [if_pos c7] at h
      refine a_iff i_Cu_text_22 c7 ?_
      refine a_aload_n i_Cu_text_25 rfl ?_
      refine a_get (v := .ref 1) i_Cu_text_26 (hk.has rfl) (congrArg Value.ref hk.im) ?_
      refine a_iload_n i_Cu_text_29 rfl ?_
      obtain ⟨c11, h⟩ := gd_some h
      refine a_bal (n := 3000) i_Cu_text_30 rfl rfl (inb_in c11) ?_
      by_cases c12 : (σ.2.1 1 x2.toNatClampNeg) = 0
      · rw [if_pos c12] at h
        refine a_iff i_Cu_text_31 c12 ?_
        refine a_aload_n i_Cu_text_34 rfl ?_
        refine a_iload_n i_Cu_text_35 rfl ?_
        refine a_iconst i_Cu_text_36 ?_
        refine a_iadd i_Cu_text_37 ?_
        refine a_puti i_Cu_text_38 (hk.has rfl) trivial ?_
        refine a_iload_n i_Cu_text_41 rfl ?_
        exact am_ret_i ok_Cu_text rfl rfl (am_lf_i h)
      · rw [if_neg c12] at h
        refine a_ift i_Cu_text_31 c12 ?_
        refine a_iinc i_Cu_text_43 rfl rfl ?_
        refine a_goto i_Cu_text_46 ?_
        exact ih hk h
    · rw [if_neg c7] at h
      refine a_ift i_Cu_text_22 c7 ?_
      exact am_wk (t_Cu_text_49 hk h) ⟨Or.inr rfl, Or.inr rfl, Or.inl rfl, trivial⟩
  · rw [if_neg c4] at h
    refine a_ict i_Cu_text_15 (Int32.not_lt.mp c4) ?_
    exact am_wk (t_Cu_text_49 hk h) ⟨Or.inr rfl, Or.inr rfl, Or.inl rfl, trivial⟩
def g_Cu_text (k : Nat) (σ : am_S) : Option (Int32 × am_S) :=
  g_Cu_text_10 4000 k (σ.1.1 k 1) (σ.1.1 k 1) σ
set_option maxHeartbeats 4000000 in
theorem t_Cu_text_0 {k : Nat} {σ σ' : am_S} {r : Int32} (hk : cu k) (h : g_Cu_text k σ = some (r, σ')) : am_A S_c M_Cu_text (0, [some (.ref k), none, none], [], σ) (am_r S_c (fun q τ => q = some (.int r) ∧ τ = σ')) := by
  unfold g_Cu_text at h
  refine a_aload_n i_Cu_text_0 rfl ?_
  refine a_get (v := .int (σ.1.1 k 1)) i_Cu_text_1 (hk.has rfl) rfl ?_
  refine a_istore_n i_Cu_text_4 rfl ?_
  refine a_aload_n i_Cu_text_5 rfl ?_
  refine a_get (v := .int (σ.1.1 k 1)) i_Cu_text_6 (hk.has rfl) rfl ?_
  refine a_istore_n i_Cu_text_9 rfl ?_
  exact t_Cu_text_10 4000 hk h
theorem t_Cu_text {k : Nat} {σ σ' : am_S} {r : Int32} (hk : cu k) (h : g_Cu_text k σ = some (r, σ')) : am_Mt S_c M_Cu_text [.ref k] σ (fun q τ => q = some (.int r) ∧ τ = σ') :=
  am_M_of ok_Cu_text (Nat.le_of_ble_eq_true rfl) (t_Cu_text_0 hk h)
def g_Cu_set (k : Nat) (x1 : Int32) (x2 : Int32) (σ : am_S) : Option (Unit × am_S) :=
  some ((), am_fi (am_fi (am_fi σ k 1 x1) k 2 x2) k 3 0)
set_option maxHeartbeats 4000000 in
theorem t_Cu_set_0 {k : Nat} {x1 : Int32} {x2 : Int32} {σ σ' : am_S} {r : Unit} (hk : cu k) (h : g_Cu_set k x1 x2 σ = some (r, σ')) : am_A S_c M_Cu_set (0, [some (.ref k), some (.int x1), some (.int x2)], [], σ) (am_r S_c (fun q τ => q = none ∧ τ = σ')) := by
  unfold g_Cu_set at h
  refine a_aload_n i_Cu_set_0 rfl ?_
  refine a_iload_n i_Cu_set_1 rfl ?_
  refine a_puti i_Cu_set_2 (hk.has rfl) trivial ?_
  refine a_aload_n i_Cu_set_5 rfl ?_
  refine a_iload_n i_Cu_set_6 rfl ?_
  refine a_puti i_Cu_set_7 (hk.has rfl) trivial ?_
  refine a_aload_n i_Cu_set_10 rfl ?_
  refine a_iconst i_Cu_set_11 ?_
  refine a_puti i_Cu_set_12 (hk.has rfl) (Or.inl rfl) ?_
  exact am_ret_v ok_Cu_set rfl rfl (am_lf_v h)
theorem t_Cu_set {k : Nat} {x1 : Int32} {x2 : Int32} {σ σ' : am_S} {r : Unit} (hk : cu k) (h : g_Cu_set k x1 x2 σ = some (r, σ')) : am_Mt S_c M_Cu_set [.ref k, .int x1, .int x2] σ (fun q τ => q = none ∧ τ = σ') :=
  am_M_of ok_Cu_set (Nat.le_of_ble_eq_true rfl) (t_Cu_set_0 hk h)
def g_Cu_number_20 (k : Nat) (σ : am_S) : Option (Int64 × am_S) :=
  some (0, am_fi σ k 3 1)
set_option maxHeartbeats 4000000 in
theorem t_Cu_number_20 {k : Nat} {σ σ' : am_S} {r : Int64} (hk : cu k) (h : g_Cu_number_20 k σ = some (r, σ')) : am_A S_c M_Cu_number (20, [some (.ref k), none, none, none, none], [], σ) (am_r S_c (fun q τ => q = some (.long r) ∧ τ = σ')) := by
  unfold g_Cu_number_20 at h
  refine a_aload_n i_Cu_number_20 rfl ?_
  refine a_iconst i_Cu_number_21 ?_
  refine a_puti i_Cu_number_22 (hk.has rfl) (Or.inr rfl) ?_
  refine a_lconst i_Cu_number_25 ?_
  exact am_ret_l ok_Cu_number rfl rfl (am_lf_l h)
def g_Cu_number_34 : Nat → Nat → Int32 → Int64 → Int32 → am_S → Option (Int64 × am_S)
  | 0, _, _, _, _, _ => none
  | n + 1, k, x1, x2, x4, σ =>
  if x4 < 0 then
    some (x2, am_fi σ k 1 ((σ.1.1 k 1) + x1))
  else
    am_gd (inb ((σ.1.1 k 1) + x4) 3000) <|
    g_Cu_number_34 n k x1 ((x2 <<< ((8 : Int32).toInt64 &&& 63)) ||| (((σ.2.1 1 ((σ.1.1 k 1) + x4).toNatClampNeg) &&& 255).toInt64)) (x4 + (-1)) σ
set_option maxHeartbeats 4000000 in
theorem t_Cu_number_34 : ∀ (n : Nat) {k : Nat} {x1 : Int32} {x2 : Int64} {x4 : Int32} {σ σ' : am_S} {r : Int64} (hk : cu k) (h : g_Cu_number_34 n k x1 x2 x4 σ = some (r, σ')), am_A S_c M_Cu_number (34, [some (.ref k), some (.int x1), some (.long x2), none, some (.int x4)], [], σ) (am_r S_c (fun q τ => q = some (.long r) ∧ τ = σ')) := by
  intro n
  induction n with
  | zero =>
    intro k x1 x2 x4 σ σ' r hk h
    cases h
  | succ n ih =>
  intro k x1 x2 x4 σ σ' r hk h
  unfold g_Cu_number_34 at h
  refine a_iload i_Cu_number_34 rfl ?_
  by_cases c2 : x4 < 0
  · rw [if_pos c2] at h
    refine a_ift i_Cu_number_36 c2 ?_
    refine a_aload_n i_Cu_number_68 rfl ?_
    refine a_dup_a i_Cu_number_69 ?_
    refine a_get (v := .int (σ.1.1 k 1)) i_Cu_number_70 (hk.has rfl) rfl ?_
    refine a_iload_n i_Cu_number_73 rfl ?_
    refine a_iadd i_Cu_number_74 ?_
    refine a_puti i_Cu_number_75 (hk.has rfl) trivial ?_
    refine a_lload_n i_Cu_number_78 rfl ?_
    exact am_ret_l ok_Cu_number rfl rfl (am_lf_l h)
  · rw [if_neg c2] at h
    refine a_iff i_Cu_number_36 c2 ?_
    refine a_lload_n i_Cu_number_39 rfl ?_
    refine a_bipush i_Cu_number_40 ?_
    refine a_lshl i_Cu_number_42 ?_
    refine a_aload_n i_Cu_number_43 rfl ?_
    refine a_get (v := .ref 1) i_Cu_number_44 (hk.has rfl) (congrArg Value.ref hk.im) ?_
    refine a_aload_n i_Cu_number_47 rfl ?_
    refine a_get (v := .int (σ.1.1 k 1)) i_Cu_number_48 (hk.has rfl) rfl ?_
    refine a_iload i_Cu_number_51 rfl ?_
    refine a_iadd i_Cu_number_53 ?_
    obtain ⟨c12, h⟩ := gd_some h
    refine a_bal (n := 3000) i_Cu_number_54 rfl rfl (inb_in c12) ?_
    refine a_sipush i_Cu_number_55 ?_
    refine a_iand i_Cu_number_58 ?_
    refine a_i2l i_Cu_number_59 ?_
    refine a_lor i_Cu_number_60 ?_
    refine a_lstore_n i_Cu_number_61 rfl ?_
    refine a_iinc i_Cu_number_62 rfl rfl ?_
    refine a_goto i_Cu_number_65 ?_
    exact ih hk h
def g_Cu_number (k : Nat) (x1 : Int32) (σ : am_S) : Option (Int64 × am_S) :=
  if (σ.1.1 k 3) = 0 then
    if ((σ.1.1 k 2) - (σ.1.1 k 1)) < x1 then
      g_Cu_number_20 k σ
    else
      g_Cu_number_34 4000 k x1 (0) (x1 - 1) σ
  else
    g_Cu_number_20 k σ
set_option maxHeartbeats 4000000 in
theorem t_Cu_number_0 {k : Nat} {x1 : Int32} {σ σ' : am_S} {r : Int64} (hk : cu k) (h : g_Cu_number k x1 σ = some (r, σ')) : am_A S_c M_Cu_number (0, [some (.ref k), some (.int x1), none, none, none], [], σ) (am_r S_c (fun q τ => q = some (.long r) ∧ τ = σ')) := by
  unfold g_Cu_number at h
  refine a_aload_n i_Cu_number_0 rfl ?_
  refine a_get (v := .int (σ.1.1 k 3)) i_Cu_number_1 (hk.has rfl) rfl ?_
  by_cases c3 : (σ.1.1 k 3) = 0
  · rw [if_pos c3] at h
    refine a_iff i_Cu_number_4 c3 ?_
    refine a_aload_n i_Cu_number_7 rfl ?_
    refine a_get (v := .int (σ.1.1 k 2)) i_Cu_number_8 (hk.has rfl) rfl ?_
    refine a_aload_n i_Cu_number_11 rfl ?_
    refine a_get (v := .int (σ.1.1 k 1)) i_Cu_number_12 (hk.has rfl) rfl ?_
    refine a_isub i_Cu_number_15 ?_
    refine a_iload_n i_Cu_number_16 rfl ?_
    by_cases c10 : ((σ.1.1 k 2) - (σ.1.1 k 1)) < x1
    · rw [if_pos c10] at h
      refine a_icf i_Cu_number_17 (Int32.not_le.mpr c10) ?_
      exact am_wk (t_Cu_number_20 hk h) ⟨Or.inr rfl, Or.inl rfl, Or.inl rfl, Or.inl rfl, Or.inl rfl, trivial⟩
    · rw [if_neg c10] at h
      refine a_ict i_Cu_number_17 (Int32.not_lt.mp c10) ?_
      refine a_lconst i_Cu_number_27 ?_
      refine a_lstore_n i_Cu_number_28 rfl ?_
      refine a_iload_n i_Cu_number_29 rfl ?_
      refine a_iconst i_Cu_number_30 ?_
      refine a_isub i_Cu_number_31 ?_
      refine a_istore i_Cu_number_32 rfl ?_
      exact t_Cu_number_34 4000 hk h
  · rw [if_neg c3] at h
    refine a_ift i_Cu_number_4 c3 ?_
    exact am_wk (t_Cu_number_20 hk h) ⟨Or.inr rfl, Or.inl rfl, Or.inl rfl, Or.inl rfl, Or.inl rfl, trivial⟩
theorem t_Cu_number {k : Nat} {x1 : Int32} {σ σ' : am_S} {r : Int64} (hk : cu k) (h : g_Cu_number k x1 σ = some (r, σ')) : am_Mt S_c M_Cu_number [.ref k, .int x1] σ (fun q τ => q = some (.long r) ∧ τ = σ') :=
  am_M_of ok_Cu_number (Nat.le_of_ble_eq_true rfl) (t_Cu_number_0 hk h)
def g_Cu_skip_47 (k : Nat) (σ : am_S) : Option (Unit × am_S) :=
  some ((), σ)
set_option maxHeartbeats 4000000 in
theorem t_Cu_skip_47 {k : Nat} {σ σ' : am_S} {r : Unit} (hk : cu k) (h : g_Cu_skip_47 k σ = some (r, σ')) : am_A S_c M_Cu_skip (47, [none, none, none], [], σ) (am_r S_c (fun q τ => q = none ∧ τ = σ')) := by
  unfold g_Cu_skip_47 at h
  exact am_ret_v ok_Cu_skip rfl rfl (am_lf_v h)
def g_Cu_skip_28 (k : Nat) (σ : am_S) : Option (Unit × am_S) :=
  g_Cu_skip_47 k (am_fi σ k 3 1)
set_option maxHeartbeats 4000000 in
theorem t_Cu_skip_28 {k : Nat} {σ σ' : am_S} {r : Unit} (hk : cu k) (h : g_Cu_skip_28 k σ = some (r, σ')) : am_A S_c M_Cu_skip (28, [some (.ref k), none, none], [], σ) (am_r S_c (fun q τ => q = none ∧ τ = σ')) := by
  unfold g_Cu_skip_28 at h
  refine a_aload_n i_Cu_skip_28 rfl ?_
  refine a_iconst i_Cu_skip_29 ?_
  refine a_puti i_Cu_skip_30 (hk.has rfl) (Or.inr rfl) ?_
  refine a_goto i_Cu_skip_33 ?_
  exact am_wk (t_Cu_skip_47 hk h) ⟨Or.inl rfl, Or.inl rfl, Or.inl rfl, trivial⟩
def g_Cu_skip (k : Nat) (x1 : Int64) (σ : am_S) : Option (Unit × am_S) :=
  if (σ.1.1 k 3) = 0 then
    if (lg_cmp x1 0) < 0 then
      g_Cu_skip_28 k σ
    else
      if 0 < (lg_cmp x1 (((σ.1.1 k 2) - (σ.1.1 k 1)).toInt64)) then
        g_Cu_skip_28 k σ
      else
        g_Cu_skip_47 k (am_fi σ k 1 ((σ.1.1 k 1) + x1.toInt32))
  else
    g_Cu_skip_28 k σ
set_option maxHeartbeats 4000000 in
theorem t_Cu_skip_0 {k : Nat} {x1 : Int64} {σ σ' : am_S} {r : Unit} (hk : cu k) (h : g_Cu_skip k x1 σ = some (r, σ')) : am_A S_c M_Cu_skip (0, [some (.ref k), some (.long x1), none], [], σ) (am_r S_c (fun q τ => q = none ∧ τ = σ')) := by
  unfold g_Cu_skip at h
  refine a_aload_n i_Cu_skip_0 rfl ?_
  refine a_get (v := .int (σ.1.1 k 3)) i_Cu_skip_1 (hk.has rfl) rfl ?_
  by_cases c3 : (σ.1.1 k 3) = 0
  · rw [if_pos c3] at h
    refine a_iff i_Cu_skip_4 c3 ?_
    refine a_lload_n i_Cu_skip_7 rfl ?_
    refine a_lconst i_Cu_skip_8 ?_
    refine a_lcmp i_Cu_skip_9 ?_
    by_cases c7 : (lg_cmp x1 0) < 0
    · rw [if_pos c7] at h
      refine a_ift i_Cu_skip_10 c7 ?_
      exact am_wk (t_Cu_skip_28 hk h) ⟨Or.inr rfl, Or.inl rfl, Or.inl rfl, trivial⟩
    · rw [if_neg c7] at h
      refine a_iff i_Cu_skip_10 c7 ?_
      refine a_lload_n i_Cu_skip_13 rfl ?_
      refine a_aload_n i_Cu_skip_14 rfl ?_
      refine a_get (v := .int (σ.1.1 k 2)) i_Cu_skip_15 (hk.has rfl) rfl ?_
      refine a_aload_n i_Cu_skip_18 rfl ?_
      refine a_get (v := .int (σ.1.1 k 1)) i_Cu_skip_19 (hk.has rfl) rfl ?_
      refine a_isub i_Cu_skip_22 ?_
      refine a_i2l i_Cu_skip_23 ?_
      refine a_lcmp i_Cu_skip_24 ?_
      by_cases c16 : 0 < (lg_cmp x1 (((σ.1.1 k 2) - (σ.1.1 k 1)).toInt64))
      · rw [if_pos c16] at h
        refine a_iff i_Cu_skip_25 (Int32.not_le.mpr c16) ?_
        exact am_wk (t_Cu_skip_28 hk h) ⟨Or.inr rfl, Or.inl rfl, Or.inl rfl, trivial⟩
      · rw [if_neg c16] at h
        refine a_ift i_Cu_skip_25 (Int32.not_lt.mp c16) ?_
        refine a_aload_n i_Cu_skip_36 rfl ?_
        refine a_dup_a i_Cu_skip_37 ?_
        refine a_get (v := .int (σ.1.1 k 1)) i_Cu_skip_38 (hk.has rfl) rfl ?_
        refine a_lload_n i_Cu_skip_41 rfl ?_
        refine a_l2i i_Cu_skip_42 ?_
        refine a_iadd i_Cu_skip_43 ?_
        refine a_puti i_Cu_skip_44 (hk.has rfl) trivial ?_
        exact am_wk (t_Cu_skip_47 hk h) ⟨Or.inl rfl, Or.inl rfl, Or.inl rfl, trivial⟩
  · rw [if_neg c3] at h
    refine a_ift i_Cu_skip_4 c3 ?_
    exact am_wk (t_Cu_skip_28 hk h) ⟨Or.inr rfl, Or.inl rfl, Or.inl rfl, trivial⟩
theorem t_Cu_skip {k : Nat} {x1 : Int64} {σ σ' : am_S} {r : Unit} (hk : cu k) (h : g_Cu_skip k x1 σ = some (r, σ')) : am_Mt S_c M_Cu_skip [.ref k, .long x1] σ (fun q τ => q = none ∧ τ = σ') :=
  am_M_of ok_Cu_skip (Nat.le_of_ble_eq_true rfl) (t_Cu_skip_0 hk h)
def g_Cu_leb_128 (k : Nat) (y0 : Int64) (σ : am_S) : Option (Int64 × am_S) :=
  some (y0, σ)
set_option maxHeartbeats 4000000 in
theorem t_Cu_leb_128 {k : Nat} {y0 : Int64} {σ σ' : am_S} {r : Int64} (hk : cu k) (h : g_Cu_leb_128 k y0 σ = some (r, σ')) : am_A S_c M_Cu_leb (128, [none, none, none, none, none, none, none], [.long y0], σ) (am_r S_c (fun q τ => q = some (.long r) ∧ τ = σ')) := by
  unfold g_Cu_leb_128 at h
  exact am_ret_l ok_Cu_leb rfl rfl (am_lf_l h)
def g_Cu_leb_104 (k : Nat) (x2 : Int64) (x4 : Int32) (y0 : Int32) (σ : am_S) : Option (Int64 × am_S) :=
  if y0 = 0 then
    g_Cu_leb_128 k x2 σ
  else
    g_Cu_leb_128 k (x2 ||| ((-1) <<< ((7 * (x4 + 1)).toInt64 &&& 63))) σ
set_option maxHeartbeats 4000000 in
theorem t_Cu_leb_104 {k : Nat} {x2 : Int64} {x4 : Int32} {y0 : Int32} {σ σ' : am_S} {r : Int64} (hk : cu k) (h : g_Cu_leb_104 k x2 x4 y0 σ = some (r, σ')) : am_A S_c M_Cu_leb (104, [none, none, some (.long x2), none, some (.int x4), none, none], [.int y0], σ) (am_r S_c (fun q τ => q = some (.long r) ∧ τ = σ')) := by
  unfold g_Cu_leb_104 at h
  refine a_istore i_Cu_leb_104 rfl ?_
  refine a_iload i_Cu_leb_106 rfl ?_
  by_cases c3 : y0 = 0
  · rw [if_pos c3] at h
    refine a_ift i_Cu_leb_108 c3 ?_
    refine a_lload_n i_Cu_leb_127 rfl ?_
    exact am_wk (t_Cu_leb_128 hk h) ⟨Or.inl rfl, Or.inl rfl, Or.inl rfl, Or.inl rfl, Or.inl rfl, Or.inl rfl, Or.inl rfl, trivial⟩
  · rw [if_neg c3] at h
    refine a_iff i_Cu_leb_108 c3 ?_
    refine a_lload_n i_Cu_leb_111 rfl ?_
    refine a_ldc2 i_Cu_leb_112 ?_
    refine a_bipush i_Cu_leb_115 ?_
    refine a_iload i_Cu_leb_117 rfl ?_
    refine a_iconst i_Cu_leb_119 ?_
    refine a_iadd i_Cu_leb_120 ?_
    refine a_imul i_Cu_leb_121 ?_
    refine a_lshl i_Cu_leb_122 ?_
    refine a_lor i_Cu_leb_123 ?_
    refine a_goto i_Cu_leb_124 ?_
    exact am_wk (t_Cu_leb_128 hk h) ⟨Or.inl rfl, Or.inl rfl, Or.inl rfl, Or.inl rfl, Or.inl rfl, Or.inl rfl, Or.inl rfl, trivial⟩
def g_Cu_leb_103 (k : Nat) (x2 : Int64) (x4 : Int32) (σ : am_S) : Option (Int64 × am_S) :=
  g_Cu_leb_104 k x2 x4 (0) σ
set_option maxHeartbeats 4000000 in
theorem t_Cu_leb_103 {k : Nat} {x2 : Int64} {x4 : Int32} {σ σ' : am_S} {r : Int64} (hk : cu k) (h : g_Cu_leb_103 k x2 x4 σ = some (r, σ')) : am_A S_c M_Cu_leb (103, [none, none, some (.long x2), none, some (.int x4), none, none], [], σ) (am_r S_c (fun q τ => q = some (.long r) ∧ τ = σ')) := by
  unfold g_Cu_leb_103 at h
  refine a_iconst i_Cu_leb_103 ?_
  exact t_Cu_leb_104 hk h
def g_Cu_leb_135 (k : Nat) (σ : am_S) : Option (Int64 × am_S) :=
  some (0, am_fi σ k 3 1)
set_option maxHeartbeats 4000000 in
theorem t_Cu_leb_135 {k : Nat} {σ σ' : am_S} {r : Int64} (hk : cu k) (h : g_Cu_leb_135 k σ = some (r, σ')) : am_A S_c M_Cu_leb (135, [some (.ref k), none, none, none, none, none, none], [], σ) (am_r S_c (fun q τ => q = some (.long r) ∧ τ = σ')) := by
  unfold g_Cu_leb_135 at h
  refine a_aload_n i_Cu_leb_135 rfl ?_
  refine a_iconst i_Cu_leb_136 ?_
  refine a_puti i_Cu_leb_137 (hk.has rfl) (Or.inr rfl) ?_
  refine a_lconst i_Cu_leb_140 ?_
  exact am_ret_l ok_Cu_leb rfl rfl (am_lf_l h)
def g_Cu_leb_5 : Nat → Nat → Int32 → Int64 → Int32 → am_S → Option (Int64 × am_S)
  | 0, _, _, _, _, _ => none
  | n + 1, k, x1, x2, x4, σ =>
  if x4 < 10 then
    if (σ.1.1 k 3) = 0 then
      if (σ.1.1 k 1) < (σ.1.1 k 2) then
        am_gd (inb (σ.1.1 k 1) 3000) <|
        if ((σ.2.1 1 (σ.1.1 k 1).toNatClampNeg) &&& 255) < 128 then
          if x1 = 0 then
            g_Cu_leb_103 k (x2 ||| (((((σ.2.1 1 (σ.1.1 k 1).toNatClampNeg) &&& 255) &&& 127).toInt64) <<< ((7 * x4).toInt64 &&& 63))) x4 (am_fi σ k 1 ((σ.1.1 k 1) + 1))
          else
            if (((σ.2.1 1 (σ.1.1 k 1).toNatClampNeg) &&& 255) &&& 64) = 0 then
              g_Cu_leb_103 k (x2 ||| (((((σ.2.1 1 (σ.1.1 k 1).toNatClampNeg) &&& 255) &&& 127).toInt64) <<< ((7 * x4).toInt64 &&& 63))) x4 (am_fi σ k 1 ((σ.1.1 k 1) + 1))
            else
              if (x4 + 1) < 10 then
                g_Cu_leb_104 k (x2 ||| (((((σ.2.1 1 (σ.1.1 k 1).toNatClampNeg) &&& 255) &&& 127).toInt64) <<< ((7 * x4).toInt64 &&& 63))) x4 (1) (am_fi σ k 1 ((σ.1.1 k 1) + 1))
              else
                g_Cu_leb_103 k (x2 ||| (((((σ.2.1 1 (σ.1.1 k 1).toNatClampNeg) &&& 255) &&& 127).toInt64) <<< ((7 * x4).toInt64 &&& 63))) x4 (am_fi σ k 1 ((σ.1.1 k 1) + 1))
        else
          g_Cu_leb_5 n k x1 (x2 ||| (((((σ.2.1 1 (σ.1.1 k 1).toNatClampNeg) &&& 255) &&& 127).toInt64) <<< ((7 * x4).toInt64 &&& 63))) (x4 + 1) (am_fi σ k 1 ((σ.1.1 k 1) + 1))
      else
        g_Cu_leb_135 k σ
    else
      g_Cu_leb_135 k σ
  else
    g_Cu_leb_135 k σ
set_option maxHeartbeats 4000000 in
theorem t_Cu_leb_5 : ∀ (n : Nat) {k : Nat} {x1 : Int32} {x2 : Int64} {x4 : Int32} {σ σ' : am_S} {r : Int64} (hk : cu k) (h : g_Cu_leb_5 n k x1 x2 x4 σ = some (r, σ')), am_A S_c M_Cu_leb (5, [some (.ref k), some (.int x1), some (.long x2), none, some (.int x4), none, none], [], σ) (am_r S_c (fun q τ => q = some (.long r) ∧ τ = σ')) := by
  intro n
  induction n with
  | zero =>
    intro k x1 x2 x4 σ σ' r hk h
    cases h
  | succ n ih =>
  intro k x1 x2 x4 σ σ' r hk h
  unfold g_Cu_leb_5 at h
  refine a_iload i_Cu_leb_5 rfl ?_
  refine a_bipush i_Cu_leb_7 ?_
  by_cases c3 : x4 < 10
  · rw [if_pos c3] at h
    refine a_icf i_Cu_leb_9 (Int32.not_le.mpr c3) ?_
    refine a_aload_n i_Cu_leb_12 rfl ?_
    refine a_get (v := .int (σ.1.1 k 3)) i_Cu_leb_13 (hk.has rfl) rfl ?_
    by_cases c6 : (σ.1.1 k 3) = 0
    · rw [if_pos c6] at h
      refine a_iff i_Cu_leb_16 c6 ?_
      refine a_aload_n i_Cu_leb_19 rfl ?_
      refine a_get (v := .int (σ.1.1 k 1)) i_Cu_leb_20 (hk.has rfl) rfl ?_
      refine a_aload_n i_Cu_leb_23 rfl ?_
      refine a_get (v := .int (σ.1.1 k 2)) i_Cu_leb_24 (hk.has rfl) rfl ?_
      by_cases c11 : (σ.1.1 k 1) < (σ.1.1 k 2)
      · rw [if_pos c11] at h
        refine a_icf i_Cu_leb_27 (Int32.not_le.mpr c11) ?_
        refine a_aload_n i_Cu_leb_30 rfl ?_
        refine a_get (v := .ref 1) i_Cu_leb_31 (hk.has rfl) (congrArg Value.ref hk.im) ?_
        refine a_aload_n i_Cu_leb_34 rfl ?_
        refine a_get (v := .int (σ.1.1 k 1)) i_Cu_leb_35 (hk.has rfl) rfl ?_
        obtain ⟨c16, h⟩ := gd_some h
        refine a_bal (n := 3000) i_Cu_leb_38 rfl rfl (inb_in c16) ?_
        refine a_sipush i_Cu_leb_39 ?_
        refine a_iand i_Cu_leb_42 ?_
        refine a_istore i_Cu_leb_43 rfl ?_
        refine a_aload_n i_Cu_leb_45 rfl ?_
        refine a_dup_a i_Cu_leb_46 ?_
        refine a_get (v := .int (σ.1.1 k 1)) i_Cu_leb_47 (hk.has rfl) rfl ?_
        refine a_iconst i_Cu_leb_50 ?_
        refine a_iadd i_Cu_leb_51 ?_
        refine a_puti i_Cu_leb_52 (hk.has rfl) trivial ?_
        refine a_lload_n i_Cu_leb_55 rfl ?_
        refine a_iload i_Cu_leb_56 rfl ?_
        refine a_bipush i_Cu_leb_58 ?_
        refine a_iand i_Cu_leb_60 ?_
        refine a_i2l i_Cu_leb_61 ?_
        refine a_bipush i_Cu_leb_62 ?_
        refine a_iload i_Cu_leb_64 rfl ?_
        refine a_imul i_Cu_leb_66 ?_
        refine a_lshl i_Cu_leb_67 ?_
        refine a_lor i_Cu_leb_68 ?_
        refine a_lstore_n i_Cu_leb_69 rfl ?_
        refine a_iload i_Cu_leb_70 rfl ?_
        refine a_sipush i_Cu_leb_72 ?_
        by_cases c39 : ((σ.2.1 1 (σ.1.1 k 1).toNatClampNeg) &&& 255) < 128
        · rw [if_pos c39] at h
          refine a_icf i_Cu_leb_75 (Int32.not_le.mpr c39) ?_
          refine a_iload_n i_Cu_leb_78 rfl ?_
          by_cases c41 : x1 = 0
          · rw [if_pos c41] at h
            refine a_ift i_Cu_leb_79 c41 ?_
            exact am_wk (t_Cu_leb_103 hk h) ⟨Or.inl rfl, Or.inl rfl, Or.inr rfl, Or.inl rfl, Or.inr rfl, Or.inl rfl, Or.inl rfl, trivial⟩
          · rw [if_neg c41] at h
            refine a_iff i_Cu_leb_79 c41 ?_
            refine a_iload i_Cu_leb_82 rfl ?_
            refine a_bipush i_Cu_leb_84 ?_
            refine a_iand i_Cu_leb_86 ?_
            by_cases c45 : (((σ.2.1 1 (σ.1.1 k 1).toNatClampNeg) &&& 255) &&& 64) = 0
            · rw [if_pos c45] at h
              refine a_ift i_Cu_leb_87 c45 ?_
              exact am_wk (t_Cu_leb_103 hk h) ⟨Or.inl rfl, Or.inl rfl, Or.inr rfl, Or.inl rfl, Or.inr rfl, Or.inl rfl, Or.inl rfl, trivial⟩
            · rw [if_neg c45] at h
              refine a_iff i_Cu_leb_87 c45 ?_
              refine a_iload i_Cu_leb_90 rfl ?_
              refine a_iconst i_Cu_leb_92 ?_
              refine a_iadd i_Cu_leb_93 ?_
              refine a_bipush i_Cu_leb_94 ?_
              by_cases c50 : (x4 + 1) < 10
              · rw [if_pos c50] at h
                refine a_icf i_Cu_leb_96 (Int32.not_le.mpr c50) ?_
                refine a_iconst i_Cu_leb_99 ?_
                refine a_goto i_Cu_leb_100 ?_
                exact am_wk (t_Cu_leb_104 hk h) ⟨Or.inl rfl, Or.inl rfl, Or.inr rfl, Or.inl rfl, Or.inr rfl, Or.inl rfl, Or.inl rfl, trivial⟩
              · rw [if_neg c50] at h
                refine a_ict i_Cu_leb_96 (Int32.not_lt.mp c50) ?_
                exact am_wk (t_Cu_leb_103 hk h) ⟨Or.inl rfl, Or.inl rfl, Or.inr rfl, Or.inl rfl, Or.inr rfl, Or.inl rfl, Or.inl rfl, trivial⟩
        · rw [if_neg c39] at h
          refine a_ict i_Cu_leb_75 (Int32.not_lt.mp c39) ?_
          refine a_iinc i_Cu_leb_129 rfl rfl ?_
          refine a_goto i_Cu_leb_132 ?_
          exact am_wk (ih hk h) ⟨Or.inr rfl, Or.inr rfl, Or.inr rfl, Or.inl rfl, Or.inr rfl, Or.inl rfl, Or.inl rfl, trivial⟩
      · rw [if_neg c11] at h
        refine a_ict i_Cu_leb_27 (Int32.not_lt.mp c11) ?_
        exact am_wk (t_Cu_leb_135 hk h) ⟨Or.inr rfl, Or.inl rfl, Or.inl rfl, Or.inl rfl, Or.inl rfl, Or.inl rfl, Or.inl rfl, trivial⟩
    · rw [if_neg c6] at h
      refine a_ift i_Cu_leb_16 c6 ?_
      exact am_wk (t_Cu_leb_135 hk h) ⟨Or.inr rfl, Or.inl rfl, Or.inl rfl, Or.inl rfl, Or.inl rfl, Or.inl rfl, Or.inl rfl, trivial⟩
  · rw [if_neg c3] at h
    refine a_ict i_Cu_leb_9 (Int32.not_lt.mp c3) ?_
    exact am_wk (t_Cu_leb_135 hk h) ⟨Or.inr rfl, Or.inl rfl, Or.inl rfl, Or.inl rfl, Or.inl rfl, Or.inl rfl, Or.inl rfl, trivial⟩
def g_Cu_leb (k : Nat) (x1 : Int32) (σ : am_S) : Option (Int64 × am_S) :=
  g_Cu_leb_5 4000 k x1 (0) (0) σ
set_option maxHeartbeats 4000000 in
theorem t_Cu_leb_0 {k : Nat} {x1 : Int32} {σ σ' : am_S} {r : Int64} (hk : cu k) (h : g_Cu_leb k x1 σ = some (r, σ')) : am_A S_c M_Cu_leb (0, [some (.ref k), some (.int x1), none, none, none, none, none], [], σ) (am_r S_c (fun q τ => q = some (.long r) ∧ τ = σ')) := by
  unfold g_Cu_leb at h
  refine a_lconst i_Cu_leb_0 ?_
  refine a_lstore_n i_Cu_leb_1 rfl ?_
  refine a_iconst i_Cu_leb_2 ?_
  refine a_istore i_Cu_leb_3 rfl ?_
  exact t_Cu_leb_5 4000 hk h
theorem t_Cu_leb {k : Nat} {x1 : Int32} {σ σ' : am_S} {r : Int64} (hk : cu k) (h : g_Cu_leb k x1 σ = some (r, σ')) : am_Mt S_c M_Cu_leb [.ref k, .int x1] σ (fun q τ => q = some (.long r) ∧ τ = σ') :=
  am_M_of ok_Cu_leb (Nat.le_of_ble_eq_true rfl) (t_Cu_leb_0 hk h)
def g_Cu_uleb (k : Nat) (σ : am_S) : Option (Int64 × am_S) :=
  am_bd (g_Cu_leb k (0) σ) fun v3 σ3 =>
  some (v3, σ3)
set_option maxHeartbeats 4000000 in
theorem t_Cu_uleb_0 {k : Nat} {σ σ' : am_S} {r : Int64} (hk : cu k) (h : g_Cu_uleb k σ = some (r, σ')) : am_A S_c M_Cu_uleb (0, [some (.ref k)], [], σ) (am_r S_c (fun q τ => q = some (.long r) ∧ τ = σ')) := by
  unfold g_Cu_uleb at h
  refine a_aload_n i_Cu_uleb_0 rfl ?_
  refine a_iconst i_Cu_uleb_1 ?_
  obtain ⟨v3, σ3, e3, h⟩ := am_bd_some h
  refine am_cvd (rest := []) [.int 0] c_Cu_uleb_2 (cu_is hk) rfl (Nat.le_of_ble_eq_true rfl) (t_Cu_leb hk e3) ?_
  exact am_ret_l ok_Cu_uleb rfl rfl (am_lf_l h)
theorem t_Cu_uleb {k : Nat} {σ σ' : am_S} {r : Int64} (hk : cu k) (h : g_Cu_uleb k σ = some (r, σ')) : am_Mt S_c M_Cu_uleb [.ref k] σ (fun q τ => q = some (.long r) ∧ τ = σ') :=
  am_M_of ok_Cu_uleb (Nat.le_of_ble_eq_true rfl) (t_Cu_uleb_0 hk h)
def g_Cu_sleb (k : Nat) (σ : am_S) : Option (Int64 × am_S) :=
  am_bd (g_Cu_leb k (1) σ) fun v3 σ3 =>
  some (v3, σ3)
set_option maxHeartbeats 4000000 in
theorem t_Cu_sleb_0 {k : Nat} {σ σ' : am_S} {r : Int64} (hk : cu k) (h : g_Cu_sleb k σ = some (r, σ')) : am_A S_c M_Cu_sleb (0, [some (.ref k)], [], σ) (am_r S_c (fun q τ => q = some (.long r) ∧ τ = σ')) := by
  unfold g_Cu_sleb at h
  refine a_aload_n i_Cu_sleb_0 rfl ?_
  refine a_iconst i_Cu_sleb_1 ?_
  obtain ⟨v3, σ3, e3, h⟩ := am_bd_some h
  refine am_cvd (rest := []) [.int 1] c_Cu_sleb_2 (cu_is hk) rfl (Nat.le_of_ble_eq_true rfl) (t_Cu_leb hk e3) ?_
  exact am_ret_l ok_Cu_sleb rfl rfl (am_lf_l h)
theorem t_Cu_sleb {k : Nat} {σ σ' : am_S} {r : Int64} (hk : cu k) (h : g_Cu_sleb k σ = some (r, σ')) : am_Mt S_c M_Cu_sleb [.ref k] σ (fun q τ => q = some (.long r) ∧ τ = σ') :=
  am_M_of ok_Cu_sleb (Nat.le_of_ble_eq_true rfl) (t_Cu_sleb_0 hk h)
