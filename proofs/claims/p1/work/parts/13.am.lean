/-! instructions that change locals, jump, or divide: with what must hold ('am_all'), and the way chosen at each branch -/
def am_all : List Prop → Prop
  | [] => True
  | a :: r => a ∧ am_all r
def am_cy (c : ClassFile.Cond) (a b : Int32) : Prop := match c with
  | .eq => a = b
  | .ne => ¬ a = b
  | .lt => a < b
  | .ge => b ≤ a
  | .gt => b < a
  | .le => a ≤ b
def am_cn (c : ClassFile.Cond) (a b : Int32) : Prop := match c with
  | .eq => ¬ a = b
  | .ne => a = b
  | .lt => ¬ a < b
  | .ge => ¬ b ≤ a
  | .gt => ¬ b < a
  | .le => ¬ a ≤ b
def am_tg (pc : Nat) (o : Int) : Nat := ((pc : Int) + o).toNat
abbrev am_G : Type := List Prop × List Nat × Nat × List (Option Value) × List Value
def am_sv1 (d : List Nat) (pc : Nat) (L : List (Option Value)) (k : Nat) (v : Value) (r : List Value) : Option am_G := match am_st1 L k v with
  | some L' => some ([], d, pc, L', r)
  | none => none
def am_sv2 (d : List Nat) (pc : Nat) (L : List (Option Value)) (k : Nat) (v : Value) (r : List Value) : Option am_G := match am_st2 L k v with
  | some L' => some ([], d, pc, L', r)
  | none => none
def am_q (i : Instr) (len pc : Nat) (x : am_X) (d : List Nat) (L : List (Option Value)) (st : List Value) : Option am_G := match i, len with
  | .istore k, 2 => match st with
    | .int v :: r => am_sv1 d (pc + 2) L k (.int v) r
    | _ => none
  | .istore_n k, 1 => match st with
    | .int v :: r => am_sv1 d (pc + 1) L k (.int v) r
    | _ => none
  | .lstore k, 2 => match st with
    | .long v :: r => am_sv2 d (pc + 2) L k (.long v) r
    | _ => none
  | .lstore_n k, 1 => match st with
    | .long v :: r => am_sv2 d (pc + 1) L k (.long v) r
    | _ => none
  | .astore k, 2 => match st with
    | .ref v :: r => am_sv1 d (pc + 2) L k (.ref v) r
    | _ => none
  | .astore_n k, 1 => match st with
    | .ref v :: r => am_sv1 d (pc + 1) L k (.ref v) r
    | _ => none
  | .iinc k _, 3 => match L[k]?, x.1 with
    | some (some (.int v)), .int u => am_sv1 d (pc + 3) L k (.int (v + u)) st
    | _, _ => none
  | .idiv, 1 => match st with
    | .int b :: .int a :: r => some ([¬ b = 0], d, pc + 1, L, .int (a / b) :: r)
    | _ => none
  | .irem, 1 => match st with
    | .int b :: .int a :: r => some ([¬ b = 0], d, pc + 1, L, .int (a - a / b * b) :: r)
    | _ => none
  | .goto _, 3 => some ([], d, x.2.1, L, st)
  | .ifCond cd _, 3 => match st, d with
    | .int a :: r, 0 :: d' => some ([am_cn cd a 0], d', pc + 3, L, r)
    | .int a :: r, _ :: d' => some ([am_cy cd a 0], d', x.2.1, L, r)
    | _, _ => none
  | .if_icmp cd _, 3 => match st, d with
    | .int b :: .int a :: r, 0 :: d' => some ([am_cn cd a b], d', pc + 3, L, r)
    | .int b :: .int a :: r, _ :: d' => some ([am_cy cd a b], d', x.2.1, L, r)
    | _, _ => none
  | .lookupswitch df ps, _ => match st, d with
    | .int a :: r, j :: d' => match ps.toList[j]? with
      | some q => some ([Op.lookupswitch.offset ps.toList df a.toInt = q.2, (pc : Int) + q.2 = (am_tg pc q.2 : Int)], d', am_tg pc q.2, L, r)
      | none => some ([Op.lookupswitch.offset ps.toList df a.toInt = df, (pc : Int) + df = (am_tg pc df : Int)], d', am_tg pc df, L, r)
    | _, _ => none
  | .tableswitch df lo hi os, _ => match st, d with
    | .int a :: r, j :: d' => match os[j]? with
      | some o => some ([a.toInt = lo + (j : Int), lo + (j : Int) ≤ hi, (pc : Int) + o = (am_tg pc o : Int)], d', am_tg pc o, L, r)
      | none => some ([a.toInt < lo ∨ hi < a.toInt, (pc : Int) + df = (am_tg pc df : Int)], d', am_tg pc df, L, r)
    | _, _ => none
  | _, _ => none
theorem am_sv1_ok {d : List Nat} {pc : Nat} {L : List (Option Value)} {k : Nat} {v : Value} {r : List Value} {ob : List Prop} {d' : List Nat} {pc' : Nat} {L' : List (Option Value)} {st' : List Value} (h : am_sv1 d pc L k v r = some (ob, d', pc', L', st')) : am_st1 L k v = some L' ∧ pc' = pc ∧ st' = r := by
  unfold am_sv1 at h
  split at h
  · rename_i L2 h2
    cases h
    exact ⟨h2, rfl, rfl⟩
  · cases h
theorem am_sv2_ok {d : List Nat} {pc : Nat} {L : List (Option Value)} {k : Nat} {v : Value} {r : List Value} {ob : List Prop} {d' : List Nat} {pc' : Nat} {L' : List (Option Value)} {st' : List Value} (h : am_sv2 d pc L k v r = some (ob, d', pc', L', st')) : am_st2 L k v = some L' ∧ pc' = pc ∧ st' = r := by
  unfold am_sv2 at h
  split at h
  · rename_i L2 h2
    cases h
    exact ⟨h2, rfl, rfl⟩
  · cases h
theorem am_ck_iinc {Y : am_Y} {pc k : Nat} {n : Int} {x : am_X} {u : Int32} (h : am_ck Y pc (.iinc k n) x = true) (hu : x.1 = .int u) : Int32.ofInt n = u := by
  have e := of_decide_eq_true (show decide (Value.int (Int32.ofInt n) = x.1) = true from h)
  rw [hu] at e
  exact Value.int.inj e
section AMQ
variable {p : Program} {l : Launch} {e : Env} {R : Room} {s : State} {m : MethodId} {args : Array Value} {below : List Frame} {meth : Method} {c : Code} {H : Heap} {locs : List Loc} {cells slots : Nat} {Q : State → Prop}
variable {cc : ByteArray} {pc : Nat} {ls : Array Slot} {ρ : Nat → Nat}
set_option maxHeartbeats 4000000 in
theorem am_q_ok {Y : am_Y} {i : Instr} {len : Nat} {x : am_X} {d d' : List Nat} {ob : List Prop} {pc' : Nat} {L L' : List (Option Value)} {st st' : List Value} (hx : p.tables.exec = Jvm.exec) (hb : c.code = cc)
    (hd : decode cc pc = .ok (i, len)) (hck : am_ck Y pc i x = true) (hL : am_L ρ L ls) (h : am_q i len pc x d L st = some (ob, d', pc', L', st')) (ho : am_all ob)
    (k : ∀ ls', am_L ρ L' ls' → L'.length = L.length → W p l e R s m args below meth c H locs cells slots Q (F0 m pc' ls' (st'.map (am_v ρ)))) : W p l e R s m args below meth c H locs cells slots Q (F0 m pc ls (st.map (am_v ρ))) := by
  unfold am_q at h
  split at h
  · split at h
    · obtain ⟨h1, rfl, rfl⟩ := am_sv1_ok h
      obtain ⟨h2, h9, h3⟩ := am_st1_ok (ρ := ρ) h1
      exact lv_istore hx hb hd hL.has h2 rfl (fun ls' hl => k ls' (h3 ls' hl) h9)
    · cases h
  · split at h
    · obtain ⟨h1, rfl, rfl⟩ := am_sv1_ok h
      obtain ⟨h2, h9, h3⟩ := am_st1_ok (ρ := ρ) h1
      exact lv_istore_n hx hb hd rfl hL.has h2 rfl (fun ls' hl => k ls' (h3 ls' hl) h9)
    · cases h
  · split at h
    · obtain ⟨h1, rfl, rfl⟩ := am_sv2_ok h
      obtain ⟨h2, h9, h3⟩ := am_st2_ok (ρ := ρ) h1
      exact lv_lstore hx hb hd hL.has h2 rfl (fun ls' hl => k ls' (h3 ls' hl) h9)
    · cases h
  · split at h
    · obtain ⟨h1, rfl, rfl⟩ := am_sv2_ok h
      obtain ⟨h2, h9, h3⟩ := am_st2_ok (ρ := ρ) h1
      exact lv_lstore_n hx hb hd rfl hL.has h2 rfl (fun ls' hl => k ls' (h3 ls' hl) h9)
    · cases h
  · split at h
    · obtain ⟨h1, rfl, rfl⟩ := am_sv1_ok h
      obtain ⟨h2, h9, h3⟩ := am_st1_ok (ρ := ρ) h1
      exact lv_astore hx hb hd hL.has h2 rfl (fun ls' hl => k ls' (h3 ls' hl) h9)
    · cases h
  · split at h
    · obtain ⟨h1, rfl, rfl⟩ := am_sv1_ok h
      obtain ⟨h2, h9, h3⟩ := am_st1_ok (ρ := ρ) h1
      exact lv_astore_n hx hb hd rfl hL.has h2 rfl (fun ls' hl => k ls' (h3 ls' hl) h9)
    · cases h
  · split at h
    · rename_i v u hv hu
      obtain ⟨h1, rfl, rfl⟩ := am_sv1_ok h
      obtain ⟨h2, h9, h3⟩ := am_st1_ok (ρ := ρ) h1
      have hm := am_as_of (ρ := ρ) _ 0 _ _ hv
      obtain ⟨q, hq⟩ := List.getElem?_of_mem hm
      rw [Nat.zero_add] at hq
      exact lv_iinc hx hb hd hL.has hq (by rw [am_ck_iinc hck hu]) h2 rfl (fun ls' hl => k ls' (h3 ls' hl) h9)
    · cases h
  · split at h
    · cases h
      exact lv_idiv hx hb hd ho.1 (k ls hL rfl)
    · cases h
  · split at h
    · cases h
      exact lv_irem hx hb hd ho.1 (k ls hL rfl)
    · cases h
  · cases h
    exact lv_goto hx hb hd (of_decide_eq_true hck) (k ls hL rfl)
  · rename_i cd o
    have ht := of_decide_eq_true (show decide ((pc : Int) + o = (x.2.1 : Int)) = true from hck)
    split at h
    · cases h
      have h0 := ho.1
      cases cd
      · exact lv_if_eq hx hb hd ht (fun q => (h0 q : False).elim) (fun _ => k ls hL rfl)
      · exact lv_if_ne hx hb hd ht (fun q => (q h0 : False).elim) (fun _ => k ls hL rfl)
      · exact lv_if_lt hx hb hd ht (fun q => (h0 q : False).elim) (fun _ => k ls hL rfl)
      · exact lv_if_ge hx hb hd ht (fun q => (h0 q : False).elim) (fun _ => k ls hL rfl)
      · exact lv_if_gt hx hb hd ht (fun q => (h0 q : False).elim) (fun _ => k ls hL rfl)
      · exact lv_if_le hx hb hd ht (fun q => (h0 q : False).elim) (fun _ => k ls hL rfl)
    · cases h
      have h0 := ho.1
      cases cd
      · exact lv_if_eq hx hb hd ht (fun _ => k ls hL rfl) (fun q => (q h0 : False).elim)
      · exact lv_if_ne hx hb hd ht (fun _ => k ls hL rfl) (fun q => (h0 q : False).elim)
      · exact lv_if_lt hx hb hd ht (fun _ => k ls hL rfl) (fun q => (q h0 : False).elim)
      · exact lv_if_ge hx hb hd ht (fun _ => k ls hL rfl) (fun q => (q h0 : False).elim)
      · exact lv_if_gt hx hb hd ht (fun _ => k ls hL rfl) (fun q => (q h0 : False).elim)
      · exact lv_if_le hx hb hd ht (fun _ => k ls hL rfl) (fun q => (q h0 : False).elim)
    · cases h
  · rename_i cd o
    have ht := of_decide_eq_true (show decide ((pc : Int) + o = (x.2.1 : Int)) = true from hck)
    split at h
    · cases h
      have h0 := ho.1
      cases cd
      · exact lv_icmp_eq hx hb hd ht (fun q => (h0 q : False).elim) (fun _ => k ls hL rfl)
      · exact lv_icmp_ne hx hb hd ht (fun q => (q h0 : False).elim) (fun _ => k ls hL rfl)
      · exact lv_icmp_lt hx hb hd ht (fun q => (h0 q : False).elim) (fun _ => k ls hL rfl)
      · exact lv_icmp_ge hx hb hd ht (fun q => (h0 q : False).elim) (fun _ => k ls hL rfl)
      · exact lv_icmp_gt hx hb hd ht (fun q => (h0 q : False).elim) (fun _ => k ls hL rfl)
      · exact lv_icmp_le hx hb hd ht (fun q => (h0 q : False).elim) (fun _ => k ls hL rfl)
    · cases h
      have h0 := ho.1
      cases cd
      · exact lv_icmp_eq hx hb hd ht (fun _ => k ls hL rfl) (fun q => (q h0 : False).elim)
      · exact lv_icmp_ne hx hb hd ht (fun _ => k ls hL rfl) (fun q => (h0 q : False).elim)
      · exact lv_icmp_lt hx hb hd ht (fun _ => k ls hL rfl) (fun q => (q h0 : False).elim)
      · exact lv_icmp_ge hx hb hd ht (fun _ => k ls hL rfl) (fun q => (q h0 : False).elim)
      · exact lv_icmp_gt hx hb hd ht (fun _ => k ls hL rfl) (fun q => (q h0 : False).elim)
      · exact lv_icmp_le hx hb hd ht (fun _ => k ls hL rfl) (fun q => (q h0 : False).elim)
    · cases h
  · split at h
    · split at h
      · cases h
        exact lv_lookup hx hb hd hck ho.1 ho.2.1 (k ls hL rfl)
      · cases h
        exact lv_lookup hx hb hd hck ho.1 ho.2.1 (k ls hL rfl)
    · cases h
  · split at h
    · split at h
      · rename_i o' ho'
        cases h
        have h0 := ho.1
        have h9 := ho.2.1
        refine lv_tableIn hx hb hd (by omega) (by omega) (off := o') ?_ ho.2.2.1 (k ls hL rfl)
        rw [h0]
        rw [← ho']
        congr 1
        omega
      · cases h
        exact lv_tableOut hx hb hd ho.1 ho.2.1 (k ls hL rfl)
    · cases h
  · cases h
end AMQ
