/-! a class's links: its name; constants (pool number, value); fields (pool number, class, place, kind, by the nest); static arrays (pool number, cell, place in the list of statics, by the nest) -/
abbrev am_Y : Type := String × List (Nat × Value) × List (Nat × Nat × Nat × Nat × Bool) × List (Nat × Nat × Nat × Bool)
def am_ck (Y : am_Y) (pc : Nat) (i : Instr) (x : am_X) : Bool := match i with
  | .iconst n => decide (Value.int (Int32.ofInt n) = x.1)
  | .bipush n => decide (Value.int (Int8.ofInt n).toInt32 = x.1)
  | .sipush n => decide (Value.int (Int16.ofInt n).toInt32 = x.1)
  | .lconst n => decide (Value.long (Int64.ofNat (n : Nat)) = x.1)
  | .ldc n => match x.1 with
    | .int v => decide ((n, Value.int v) ∈ Y.2.1)
    | _ => false
  | .ldc2_w n => match x.1 with
    | .long v => decide ((n, Value.long v) ∈ Y.2.1)
    | _ => false
  | .iinc _ n => decide (Value.int (Int32.ofInt n) = x.1)
  | .goto o => decide ((pc : Int) + o = (x.2.1 : Int))
  | .ifCond _ o => decide ((pc : Int) + o = (x.2.1 : Int))
  | .if_icmp _ o => decide ((pc : Int) + o = (x.2.1 : Int))
  | .lookupswitch _ ps => (ps.toList.zip (ps.toList.drop 1)).all (fun (a, next) => a.1 < next.1)
  | .getfield n => decide ((n, x.2.1, x.2.2.1, x.2.2.2, true) ∈ Y.2.2.1) || decide ((n, x.2.1, x.2.2.1, x.2.2.2, false) ∈ Y.2.2.1)
  | .putfield n => decide ((n, x.2.1, x.2.2.1, x.2.2.2, true) ∈ Y.2.2.1) || decide ((n, x.2.1, x.2.2.1, x.2.2.2, false) ∈ Y.2.2.1)
  | .getstatic n => (decide ((n, x.2.1, x.2.2.1, true) ∈ Y.2.2.2) || decide ((n, x.2.1, x.2.2.1, false) ∈ Y.2.2.2)) && decide (x.1 = .ref x.2.1)
  | _ => true
def am_kok (Y : am_Y) (tw : List Cond) : Prop := ∀ q ∈ Y.2.1, match q.2 with
  | .int v => Cond.constant Y.1 q.1 v ∈ tw
  | .long v => Cond.constantLong Y.1 q.1 v ∈ tw
  | _ => False
/-! instructions that work on the operand stack alone -/
def am_ldi (L : List (Option Value)) (k : Nat) (st : List Value) : Option (List Value) := match L[k]? with
  | some (some (.int v)) => some (.int v :: st)
  | _ => none
def am_ldl (L : List (Option Value)) (k : Nat) (st : List Value) : Option (List Value) := match L[k]? with
  | some (some (.long v)) => some (.long v :: st)
  | _ => none
def am_lda (L : List (Option Value)) (k : Nat) (st : List Value) : Option (List Value) := match L[k]? with
  | some (some (.ref v)) => some (.ref v :: st)
  | _ => none
def am_ii (g : Int32 → Int32 → Int32) (st : List Value) : Option (List Value) := match st with
  | .int b :: .int a :: r => some (.int (g a b) :: r)
  | _ => none
def am_ll (g : Int64 → Int64 → Int64) (st : List Value) : Option (List Value) := match st with
  | .long b :: .long a :: r => some (.long (g a b) :: r)
  | _ => none
def am_li (g : Int64 → Int32 → Int64) (st : List Value) : Option (List Value) := match st with
  | .int b :: .long a :: r => some (.long (g a b) :: r)
  | _ => none
def am_i1 (g : Int32 → Int32) (st : List Value) : Option (List Value) := match st with
  | .int a :: r => some (.int (g a) :: r)
  | _ => none
def am_c1 (a : Value) : Bool := a.category == 1
def am_p (i : Instr) (len : Nat) (x : am_X) (L : List (Option Value)) (st : List Value) : Option (List Value) := match i, len with
  | .iconst _, 1 => some (x.1 :: st)
  | .bipush _, 2 => some (x.1 :: st)
  | .sipush _, 3 => some (x.1 :: st)
  | .lconst _, 1 => some (x.1 :: st)
  | .ldc _, 2 => some (x.1 :: st)
  | .ldc2_w _, 3 => some (x.1 :: st)
  | .iload k, 2 => am_ldi L k st
  | .iload_n k, 1 => am_ldi L k st
  | .lload k, 2 => am_ldl L k st
  | .lload_n k, 1 => am_ldl L k st
  | .aload k, 2 => am_lda L k st
  | .aload_n k, 1 => am_lda L k st
  | .iadd, 1 => am_ii (fun a b => a + b) st
  | .isub, 1 => am_ii (fun a b => a - b) st
  | .imul, 1 => am_ii (fun a b => a * b) st
  | .iand, 1 => am_ii (fun a b => a &&& b) st
  | .ior, 1 => am_ii (fun a b => a ||| b) st
  | .ixor, 1 => am_ii (fun a b => a ^^^ b) st
  | .ishl, 1 => am_ii (fun a b => a <<< (b &&& 31)) st
  | .ishr, 1 => am_ii (fun a b => a >>> (b &&& 31)) st
  | .iushr, 1 => am_ii (fun a b => (a.toUInt32 >>> (b.toUInt32 &&& Int32.toUInt32 31)).toInt32) st
  | .ineg, 1 => am_i1 (fun a => -a) st
  | .i2b, 1 => am_i1 (fun a => a.toInt8.toInt32) st
  | .i2c, 1 => am_i1 (fun a => (a.toUInt32 % 65536).toInt32) st
  | .ladd, 1 => am_ll (fun a b => a + b) st
  | .lsub, 1 => am_ll (fun a b => a - b) st
  | .lmul, 1 => am_ll (fun a b => a * b) st
  | .land, 1 => am_ll (fun a b => a &&& b) st
  | .lor, 1 => am_ll (fun a b => a ||| b) st
  | .lxor, 1 => am_ll (fun a b => a ^^^ b) st
  | .lshl, 1 => am_li (fun a b => a <<< (b.toInt64 &&& 63)) st
  | .lshr, 1 => am_li (fun a b => a >>> (b.toInt64 &&& 63)) st
  | .lushr, 1 => am_li (fun a b => (a.toUInt64 >>> (b.toInt64.toUInt64 &&& Int64.toUInt64 63)).toInt64) st
  | .lcmp, 1 => match st with
    | .long b :: .long a :: r => some (.int (lg_cmp a b) :: r)
    | _ => none
  | .i2l, 1 => match st with
    | .int a :: r => some (.long a.toInt64 :: r)
    | _ => none
  | .l2i, 1 => match st with
    | .long a :: r => some (.int a.toInt32 :: r)
    | _ => none
  | .dup, 1 => match st with
    | a :: r => if am_c1 a = true then some (a :: a :: r) else none
    | _ => none
  | .pop, 1 => match st with
    | a :: r => if am_c1 a = true then some r else none
    | _ => none
  | .pop2, 1 => match st with
    | a :: r => if am_c1 a = true then none else some r
    | _ => none
  | .dup2, 1 => match st with
    | a :: b :: r => if am_c1 a = true then (if am_c1 b = true then some (a :: b :: a :: b :: r) else none) else some (a :: a :: b :: r)
    | [a] => if am_c1 a = true then none else some [a, a]
    | _ => none
  | .dup_x1, 1 => match st with
    | a :: b :: r => if am_c1 a = true then (if am_c1 b = true then some (a :: b :: a :: r) else none) else none
    | _ => none
  | .dup_x2, 1 => match st with
    | a :: b :: d :: r => if am_c1 a = true then (if am_c1 b = true then (if am_c1 d = true then some (a :: b :: d :: a :: r) else none) else none) else none
    | _ => none
  | .dup2_x1, 1 => match st with
    | a :: b :: r => if am_c1 a = true then none else (if am_c1 b = true then some (a :: b :: a :: r) else none)
    | _ => none
  | _, _ => none
theorem am_c1_y {ρ : Nat → Nat} {a : Value} (h : am_c1 a = true) : (am_v ρ a).category = 1 := by
  rw [am_v_cat]
  simpa [am_c1] using h
theorem am_c1_n {ρ : Nat → Nat} {a : Value} (h : ¬ am_c1 a = true) : (am_v ρ a).category = 2 := by
  rw [am_v_cat]
  rcases lv_cat a with q | q
  · exact absurd (by simp [am_c1, q]) h
  · exact q
theorem am_ck_ldc {Y : am_Y} {pc n : Nat} {x : am_X} (h : am_ck Y pc (.ldc n) x = true) : ∃ v, x.1 = .int v ∧ (n, Value.int v) ∈ Y.2.1 := by
  obtain ⟨x1, x2⟩ := x
  cases x1 with
  | int v => exact ⟨v, rfl, by simpa [am_ck] using h⟩
  | _ => simp [am_ck] at h
theorem am_ck_ldc2 {Y : am_Y} {pc n : Nat} {x : am_X} (h : am_ck Y pc (.ldc2_w n) x = true) : ∃ v, x.1 = .long v ∧ (n, Value.long v) ∈ Y.2.1 := by
  obtain ⟨x1, x2⟩ := x
  cases x1 with
  | long v => exact ⟨v, rfl, by simpa [am_ck] using h⟩
  | _ => simp [am_ck] at h
theorem am_ldi_ok {L : List (Option Value)} {k : Nat} {st st' : List Value} (h : am_ldi L k st = some st') : ∃ v, L[k]? = some (some (.int v)) ∧ st' = .int v :: st := by
  unfold am_ldi at h
  split at h
  · rename_i v hv
    cases h
    exact ⟨v, hv, rfl⟩
  · cases h
theorem am_ldl_ok {L : List (Option Value)} {k : Nat} {st st' : List Value} (h : am_ldl L k st = some st') : ∃ v, L[k]? = some (some (.long v)) ∧ st' = .long v :: st := by
  unfold am_ldl at h
  split at h
  · rename_i v hv
    cases h
    exact ⟨v, hv, rfl⟩
  · cases h
theorem am_lda_ok {L : List (Option Value)} {k : Nat} {st st' : List Value} (h : am_lda L k st = some st') : ∃ v, L[k]? = some (some (.ref v)) ∧ st' = .ref v :: st := by
  unfold am_lda at h
  split at h
  · rename_i v hv
    cases h
    exact ⟨v, hv, rfl⟩
  · cases h
theorem am_ii_ok {g : Int32 → Int32 → Int32} {st st' : List Value} (h : am_ii g st = some st') : ∃ a b r, st = .int b :: .int a :: r ∧ st' = .int (g a b) :: r := by
  unfold am_ii at h
  split at h
  · cases h
    exact ⟨_, _, _, rfl, rfl⟩
  · cases h
theorem am_ll_ok {g : Int64 → Int64 → Int64} {st st' : List Value} (h : am_ll g st = some st') : ∃ a b r, st = .long b :: .long a :: r ∧ st' = .long (g a b) :: r := by
  unfold am_ll at h
  split at h
  · cases h
    exact ⟨_, _, _, rfl, rfl⟩
  · cases h
theorem am_li_ok {g : Int64 → Int32 → Int64} {st st' : List Value} (h : am_li g st = some st') : ∃ a b r, st = .int b :: .long a :: r ∧ st' = .long (g a b) :: r := by
  unfold am_li at h
  split at h
  · cases h
    exact ⟨_, _, _, rfl, rfl⟩
  · cases h
theorem am_i1_ok {g : Int32 → Int32} {st st' : List Value} (h : am_i1 g st = some st') : ∃ a r, st = .int a :: r ∧ st' = .int (g a) :: r := by
  unfold am_i1 at h
  split at h
  · cases h
    exact ⟨_, _, rfl, rfl⟩
  · cases h
section AMP
variable {p : Program} {l : Launch} {e : Env} {R : Room} {s : State} {m : MethodId} {args : Array Value} {below : List Frame} {meth : Method} {c : Code} {H : Heap} {locs : List Loc} {cells slots : Nat} {Q : State → Prop}
variable {cc : ByteArray} {pc : Nat} {ls : Array Slot} {ρ : Nat → Nat}
set_option maxHeartbeats 4000000 in
theorem am_p_ok {Y : am_Y} {tw : List Cond} {i : Instr} {len : Nat} {x : am_X} {L : List (Option Value)} {st st' : List Value} (hx : p.tables.exec = Jvm.exec) (hb : c.code = cc) (hts : ∀ w ∈ tw, w.before args s = true) (hown : s.vm.findClass Y.1 = some m.cls) (hY : am_kok Y tw)
    (hd : decode cc pc = .ok (i, len)) (hck : am_ck Y pc i x = true) (hL : am_L ρ L ls) (h : am_p i len x L st = some st')
    (k : W p l e R s m args below meth c H locs cells slots Q (F0 m (pc + len) ls (st'.map (am_v ρ)))) : W p l e R s m args below meth c H locs cells slots Q (F0 m pc ls (st.map (am_v ρ))) := by
  unfold am_p at h
  split at h
  · cases h
    have e := of_decide_eq_true hck
    rw [← e] at k
    exact lv_iconst hx hb hd rfl k
  · cases h
    have e := of_decide_eq_true hck
    rw [← e] at k
    exact lv_bipush hx hb hd rfl k
  · cases h
    have e := of_decide_eq_true hck
    rw [← e] at k
    exact lv_sipush hx hb hd rfl k
  · cases h
    have e := of_decide_eq_true hck
    rw [← e] at k
    exact lv_lconst hx hb hd rfl k
  · cases h
    obtain ⟨v, hv, hm⟩ := am_ck_ldc hck
    rw [hv] at k
    exact lv_ldc hx hb hown (hts _ (hY _ hm)) hd k
  · cases h
    obtain ⟨v, hv, hm⟩ := am_ck_ldc2 hck
    rw [hv] at k
    exact lv_ldc2 hx hb hown (hts _ (hY _ hm)) hd k
  · obtain ⟨v, hv, rfl⟩ := am_ldi_ok h
    exact lv_iload hx hb hd (hL.at hv) k
  · obtain ⟨v, hv, rfl⟩ := am_ldi_ok h
    exact lv_iload_n hx hb hd rfl (hL.at hv) k
  · obtain ⟨v, hv, rfl⟩ := am_ldl_ok h
    exact lv_lload hx hb hd (hL.at hv) k
  · obtain ⟨v, hv, rfl⟩ := am_ldl_ok h
    exact lv_lload_n hx hb hd rfl (hL.at hv) k
  · obtain ⟨v, hv, rfl⟩ := am_lda_ok h
    exact lv_aload hx hb hd (hL.at hv) k
  · obtain ⟨v, hv, rfl⟩ := am_lda_ok h
    exact lv_aload_n hx hb hd rfl (hL.at hv) k
  · obtain ⟨a, b, r, rfl, rfl⟩ := am_ii_ok h
    exact lv_iadd hx hb hd k
  · obtain ⟨a, b, r, rfl, rfl⟩ := am_ii_ok h
    exact lv_isub hx hb hd k
  · obtain ⟨a, b, r, rfl, rfl⟩ := am_ii_ok h
    exact lv_imul hx hb hd k
  · obtain ⟨a, b, r, rfl, rfl⟩ := am_ii_ok h
    exact lv_iand hx hb hd k
  · obtain ⟨a, b, r, rfl, rfl⟩ := am_ii_ok h
    exact lv_ior hx hb hd k
  · obtain ⟨a, b, r, rfl, rfl⟩ := am_ii_ok h
    exact lv_ixor hx hb hd k
  · obtain ⟨a, b, r, rfl, rfl⟩ := am_ii_ok h
    exact lv_ishl hx hb hd k
  · obtain ⟨a, b, r, rfl, rfl⟩ := am_ii_ok h
    exact lv_ishr hx hb hd k
  · obtain ⟨a, b, r, rfl, rfl⟩ := am_ii_ok h
    exact lv_iushr hx hb hd rfl k
  · obtain ⟨a, r, rfl, rfl⟩ := am_i1_ok h
    exact lv_ineg hx hb hd k
  · obtain ⟨a, r, rfl, rfl⟩ := am_i1_ok h
    exact lv_i2b hx hb hd rfl k
  · obtain ⟨a, r, rfl, rfl⟩ := am_i1_ok h
    exact lv_i2c hx hb hd rfl k
  · obtain ⟨a, b, r, rfl, rfl⟩ := am_ll_ok h
    exact lv_ladd hx hb hd k
  · obtain ⟨a, b, r, rfl, rfl⟩ := am_ll_ok h
    exact lv_lsub hx hb hd k
  · obtain ⟨a, b, r, rfl, rfl⟩ := am_ll_ok h
    exact lv_lmul hx hb hd k
  · obtain ⟨a, b, r, rfl, rfl⟩ := am_ll_ok h
    exact lv_land hx hb hd k
  · obtain ⟨a, b, r, rfl, rfl⟩ := am_ll_ok h
    exact lv_lor hx hb hd k
  · obtain ⟨a, b, r, rfl, rfl⟩ := am_ll_ok h
    exact lv_lxor hx hb hd k
  · obtain ⟨a, b, r, rfl, rfl⟩ := am_li_ok h
    exact lv_lshl hx hb hd rfl k
  · obtain ⟨a, b, r, rfl, rfl⟩ := am_li_ok h
    exact lv_lshr hx hb hd rfl k
  · obtain ⟨a, b, r, rfl, rfl⟩ := am_li_ok h
    exact lv_lushr hx hb hd rfl k
  · split at h
    · cases h
      exact W.lcmp hx hb hd k
    · cases h
  · split at h
    · cases h
      exact lv_i2l hx hb hd rfl k
    · cases h
  · split at h
    · cases h
      exact lv_l2i hx hb hd rfl k
    · cases h
  · split at h
    · split at h
      · rename_i h1
        cases h
        exact lv_dup hx hb hd (am_c1_y h1) k
      · cases h
    · cases h
  · split at h
    · split at h
      · rename_i h1
        cases h
        exact lv_pop hx hb hd (am_c1_y h1) k
      · cases h
    · cases h
  · split at h
    · split at h
      · cases h
      · rename_i h1
        cases h
        exact lv_pop2_2 hx hb hd (am_c1_n h1) k
    · cases h
  · split at h
    · split at h
      · rename_i h1
        split at h
        · rename_i h2
          cases h
          exact lv_dup2_11 hx hb hd (am_c1_y h1) (am_c1_y h2) k
        · cases h
      · rename_i h1
        cases h
        exact lv_dup2_2 hx hb hd (am_c1_n h1) k
    · split at h
      · cases h
      · rename_i h1
        cases h
        exact lv_dup2_2 hx hb hd (am_c1_n h1) k
    · cases h
  · split at h
    · split at h
      · rename_i h1
        split at h
        · rename_i h2
          cases h
          exact lv_dup_x1 hx hb hd (am_c1_y h1) (am_c1_y h2) k
        · cases h
      · cases h
    · cases h
  · split at h
    · split at h
      · rename_i h1
        split at h
        · rename_i h2
          split at h
          · rename_i h3
            cases h
            exact lv_dup_x2 hx hb hd (am_c1_y h1) (am_c1_y h2) (am_c1_y h3) k
          · cases h
        · cases h
      · cases h
    · cases h
  · split at h
    · split at h
      · cases h
      · rename_i h1
        split at h
        · rename_i h2
          cases h
          exact lv_dup2_x1_2 hx hb hd (am_c1_n h1) (am_c1_y h2) k
        · cases h
    · cases h
  · cases h
end AMP
