/-! call sites, bundled -/
def am_V (S : am_Sy) (M M2 : am_Me) (pc n ci : Nat) : Prop := am_sys S ∧ am_ok S M ∧ ∃ (idx : Nat) (nest : Bool) (x : am_X) (q : vw_C), (am_cd M)[pc]? = some (some (.invokevirtual idx, 3, x)) ∧ am_lk S M M2 idx nest n ∧ Cond.instanceMethod (am_nm M2) ∈ am_tw S ∧ Cond.selects (am_nm M2).cls (am_nm M2) (am_nm M2) ∈ am_tw S ∧ (am_cl S)[ci]? = some q ∧ q.1 = (am_nm M2).cls
def am_T (S : am_Sy) (M M2 : am_Me) (pc n : Nat) : Prop := am_sys S ∧ am_ok S M ∧ ∃ (idx : Nat) (nest : Bool) (x : am_X), (am_cd M)[pc]? = some (some (.invokestatic idx, 3, x)) ∧ am_lk S M M2 idx nest n ∧ Cond.static (am_nm M2) ∈ am_tw S
def am_vB (S : am_Sy) (tl : List Cond) (M2 : am_Me) (ci h4 h5 : Nat) : Bool := am_in tl h4 (.instanceMethod (am_nm M2)) && am_in tl h5 (.selects (am_nm M2).cls (am_nm M2) (am_nm M2)) && (match (am_cl S)[ci]? with
  | some q => decide (q.1 = (am_nm M2).cls)
  | none => false)
def am_tB (tl : List Cond) (M2 : am_Me) (h4 : Nat) : Bool := am_in tl h4 (.static (am_nm M2))
theorem am_V_of {S : am_Sy} {tl : List Cond} {M M2 : am_Me} {pc idx n ci h1 h2 h3 h4 h5 : Nat} {nest : Bool} (hS : am_sys S) (hM : am_ok S M) (ht : am_tw S = tl.filter goodWord) (hn : am_nn S = tl.filter am_nest) (hc : (am_cd M)[pc]? = some (some (.invokevirtual idx, 3, xN))) (hl : am_lB S tl M M2 idx nest n h1 h2 h3 = true) (hv : am_vB S tl M2 ci h4 h5 = true) : am_V S M M2 pc n ci := by
  unfold am_vB at hv
  simp only [Bool.and_eq_true, decide_eq_true_eq] at hv
  obtain ⟨⟨b2, b3⟩, b4⟩ := hv
  split at b4
  · rename_i q hq
    exact ⟨hS, hM, idx, nest, xN, q, hc, am_lB_ok ht hn hl, by rw [ht]; exact am_in_g b2 rfl, by rw [ht]; exact am_in_g b3 rfl, hq, of_decide_eq_true b4⟩
  · cases b4
theorem am_T_of {S : am_Sy} {tl : List Cond} {M M2 : am_Me} {pc idx n h1 h2 h3 h4 : Nat} {nest : Bool} (hS : am_sys S) (hM : am_ok S M) (ht : am_tw S = tl.filter goodWord) (hn : am_nn S = tl.filter am_nest) (hc : (am_cd M)[pc]? = some (some (.invokestatic idx, 3, xN))) (hl : am_lB S tl M M2 idx nest n h1 h2 h3 = true) (hv : am_tB tl M2 h4 = true) : am_T S M M2 pc n := by
  exact ⟨hS, hM, idx, nest, xN, hc, am_lB_ok ht hn hl, by rw [ht]; exact am_in_g hv rfl⟩
def am_is (S : am_Sy) (k ci : Nat) : Prop := k < am_nw S ∧ ∃ ks, am_sh S k = .inr (ci, ks)
theorem am_cv {S : am_Sy} {M M2 : am_Me} {pc n ci k : Nat} {L : List (Option Value)} {rest : List Value} {σ : am_S} {F : am_Fn} {post : Option Value → am_S → Prop} (as : List Value) (c : am_V S M M2 pc n ci) (hk : am_is S k ci) (hn : as.length = n) (hw : (rest.map Value.category).sum ≤ 8) (hM2 : am_Mt S M2 (.ref k :: as) σ post)
    (kk : ∀ r σ', post r σ' → am_A S M (pc + 3, L, r.toList ++ rest, σ') F) : am_A S M (pc, L, as.reverse ++ .ref k :: rest, σ) F := by
  obtain ⟨hS, hM, idx, nest, x, q, hq, hl, hi, hse, hc, he⟩ := c
  obtain ⟨hk1, ks, hk2⟩ := hk
  exact am_callV hS hM hq hl hi hse hk1 hk2 hc he hn hw hM2 kk
theorem am_cs' {S : am_Sy} {M M2 : am_Me} {pc n : Nat} {L : List (Option Value)} {rest : List Value} {σ : am_S} {F : am_Fn} {post : Option Value → am_S → Prop} (as : List Value) (c : am_T S M M2 pc n) (hn : as.length = n) (hw : (rest.map Value.category).sum ≤ 8) (hM2 : am_Mt S M2 as σ post)
    (kk : ∀ r σ', post r σ' → am_A S M (pc + 3, L, r.toList ++ rest, σ') F) : am_A S M (pc, L, as.reverse ++ rest, σ) F := by
  obtain ⟨hS, hM, idx, nest, x, hq, hl, hi⟩ := c
  exact am_callS hS hM hq hl hi hn hw hM2 kk
set_option maxRecDepth 100000 in
theorem ht_c : am_tw S_c = lw_tbl.filter goodWord := rfl
set_option maxRecDepth 100000 in
theorem hn_c : am_nn S_c = lw_tbl.filter am_nest := rfl
set_option maxRecDepth 100000 in
theorem ht_m : am_tw S_m = lw_tbl.filter goodWord := rfl
set_option maxRecDepth 100000 in
theorem hn_m : am_nn S_m = lw_tbl.filter am_nest := rfl
