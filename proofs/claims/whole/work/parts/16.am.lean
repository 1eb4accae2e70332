/-! a stretch of code, and the judgements -/
abbrev am_Sy : Type := List vw_C × (Nat → am_C) × (Nat × Nat × (Nat → Nat → Int32)) × List Cond × List Cond × String × List (Nat × String × String × String) × List (String × String × String)
abbrev am_Me : Type := MethodName × ByteArray × Nat × Option FieldType × am_Y × List (Option am_I) × Nat × Nat × Nat × Nat
def am_cl (S : am_Sy) : List vw_C := S.1
def am_sh (S : am_Sy) : Nat → am_C := S.2.1
def am_nw (S : am_Sy) : Nat := S.2.2.1.1
def am_nt (S : am_Sy) : Nat := S.2.2.1.2.1
def am_cs (S : am_Sy) : Nat → Nat → Int32 := S.2.2.1.2.2
def am_tw (S : am_Sy) : List Cond := S.2.2.2.1
def am_nn (S : am_Sy) : List Cond := S.2.2.2.2.1
def am_ho (S : am_Sy) : String := S.2.2.2.2.2.1
def am_zs (S : am_Sy) : List (Nat × String × String × String) := S.2.2.2.2.2.2.1
def am_ys (S : am_Sy) : List (String × String × String) := S.2.2.2.2.2.2.2
def am_nm (M : am_Me) : MethodName := M.1
def am_cc (M : am_Me) : ByteArray := M.2.1
def am_mx (M : am_Me) : Nat := M.2.2.1
def am_rt (M : am_Me) : Option FieldType := M.2.2.2.1
def am_yl (M : am_Me) : am_Y := M.2.2.2.2.1
def am_cd (M : am_Me) : List (Option am_I) := M.2.2.2.2.2.1
def am_rm (M : am_Me) : Room := { frames := M.2.2.2.2.2.2.1, cells := M.2.2.2.2.2.2.2.2.1, slots := M.2.2.2.2.2.2.2.2.2, locals := M.2.2.2.2.2.2.2.1 }
def am_step (S : am_Sy) (q : am_I) (d : List Nat) (f : am_F) : am_O := match am_p q.1 q.2.1 q.2.2 f.2.1 f.2.2.1 with
  | some st' => some ([], d, (f.1 + q.2.1, f.2.1, st', f.2.2.2))
  | none => match am_q q.1 q.2.1 f.1 q.2.2 d f.2.1 f.2.2.1 with
    | some g => some (g.1, g.2.1, (g.2.2.1, g.2.2.2.1, g.2.2.2.2, f.2.2.2))
    | none => match am_h (am_sh S) (am_nw S) (am_nt S) (am_cs S) q.1 q.2.1 q.2.2 f.2.2.1 f.2.2.2 with
      | some g => some (g.1, d, (f.1 + q.2.1, f.2.1, g.2.1, g.2.2))
      | none => none
def am_run (S : am_Sy) (M : am_Me) : Nat → List Nat → am_F → Option (List Prop × am_F)
  | 0, _, f => some ([], f)
  | n + 1, d, f => match (am_cd M)[f.1]? with
    | some (some q) => match am_step S q d f with
      | some g => match am_run S M n g.2.1 g.2.2 with
        | some r => some (g.1 ++ r.1, r.2)
        | none => none
      | none => none
    | _ => none
theorem am_all_app : ∀ {a b : List Prop}, am_all (a ++ b) → am_all a ∧ am_all b
  | [], _, h => ⟨trivial, h⟩
  | _ :: _, _, h => ⟨⟨h.1, (am_all_app h.2).1⟩, (am_all_app h.2).2⟩
def am_nest : Cond → Bool
  | .fieldLinkNest _ _ _ _ _ _ => true
  | .methodLinkNest _ _ _ _ => true
  | .declares _ => true
  | .castable _ _ => true
  | _ => false
theorem am_nest_warm {w : Cond} {s U : State} (hn : am_nest w = true) (hW : s.WarmedH U.vm) (h : va_Nw w s) : va_Nw w U := by
  cases w <;> first | exact va_Nw.warmF hW h | exact va_Nw.warmM hW h | exact va_Nw.warmD hW h | exact va_tabs rfl (rfl : (s.setVm U.vm).vm = U.vm) (by rw [Cond.castable_setVm hW.alike]; exact h) | cases hn
/-! a static field's cell, with its type -/
def am_Ls (C n d : String) (A : Nat → Prop) (U : State) (H : Heap) : Prop := ∃ (c : ClassId) (k : Class) (i : Nat) (f : Field) (a : Nat) (cell : Cell), U.vm.findClass C = some c ∧ U.fieldFound? C n d = some (c, k, i, f) ∧ f.isStatic = true ∧ k.statics = some a ∧ H[a]? = some cell ∧ cell.vm.isStatics = true ∧ cell.cls = c ∧ f.slot < cell.slots.size ∧ k.staticTypes[f.slot]? = some f.type ∧ ¬ A a
theorem am_Ls.moved {C n d : String} {A : Nat → Prop} {u U : State} {H : Heap} (hvm : u.vm.Alike U.vm) (h : am_Ls C n d A u H) : am_Ls C n d A U H := by
  obtain ⟨c, k, i, f, a, cell, h1, h2, h3, h4, h5, h6, h7, h8, h9, h10⟩ := h
  obtain ⟨k', hi', he⟩ := State.fieldFound?_setVm hvm h2
  exact ⟨c, k', i, f, a, cell, by rw [hvm.findClass]; exact h1, hi', h3, by rw [he]; exact h4, h5, h6, h7, h8, by rw [he]; exact h9, h10⟩
theorem am_Ls.kept {C n d : String} {A : Nat → Prop} {U : State} {H H1 : Heap} (h : am_Ls C n d A U H) (hq : ∀ a : Nat, a < H.size → ¬ A a → H1[a]? = H[a]?) : am_Ls C n d A U H1 := by
  obtain ⟨c, k, i, f, a, cell, h1, h2, h3, h4, h5, h6, h7, h8, h9, h10⟩ := h
  exact ⟨c, k, i, f, a, cell, h1, h2, h3, h4, by rw [hq a (Array.getElem?_eq_some_iff.mp h5).1 h10]; exact h5, h6, h7, h8, h9, h10⟩
theorem am_Ls.narrow {C n d : String} {A B : Nat → Prop} {U : State} {H : Heap} (h : am_Ls C n d A U H) (hAB : ∀ q, B q → A q) : am_Ls C n d B U H := by
  obtain ⟨c, k, i, f, a, cell, h1, h2, h3, h4, h5, h6, h7, h8, h9, h10⟩ := h
  exact ⟨c, k, i, f, a, cell, h1, h2, h3, h4, h5, h6, h7, h8, h9, fun z => h10 (hAB a z)⟩
theorem am_Ls.to {C n d : String} {A : Nat → Prop} {U : State} {args : Array Value} (h : am_Ls C n d A U U.heap) : (Cond.laysStatic C n d).before args U = true := by
  obtain ⟨c, k, i, f, a, cell, h1, h2, h3, h4, h5, h6, h7, h8, h9, h10⟩ := h
  subst h7
  simp [Cond.before, Cond.holds, Cond.value, h1, h2, h3, h4, h5, h6, h8, h9]
theorem am_Ls.of {C n d : String} {A : Nat → Prop} {U : State} {args : Array Value} (h : (Cond.laysStatic C n d).before args U = true) (hA : ∀ a : Nat, a < U.heap.size → ¬ A a) : am_Ls C n d A U U.heap := by
  obtain ⟨c, k, i, f, a, cell, h1, h2, h3, h4, h5, h6, h7, h8, h9⟩ := Cond.laysStatic_spec h
  exact ⟨c, k, i, f, a, cell, h1, h2, h3, h4, h5, h6, h7, h8, h9, hA a (Array.getElem?_eq_some_iff.mp h5).1⟩
/-! what is known of the program once and for all -/
def am_sys (S : am_Sy) : Prop := am_cok (am_cl S) (am_tw S) ∧ (∀ w ∈ am_tw S, goodWord w = true) ∧ ∀ w ∈ am_nn S, am_nest w = true
def am_ok (S : am_Sy) (M : am_Me) : Prop := plainName (am_nm M).cls = true ∧ (am_nm M).cls = (am_yl M).1 ∧ am_kok (am_yl M) (am_tw S) ∧ am_fok (am_yl M) (am_cl S) (am_tw S) (am_nn S) (am_ho S) ∧ am_sok (am_yl M) (am_zs S) (am_tw S) (am_nn S) (am_ho S) ∧
  ∀ (pc : Nat) (q : am_I), (am_cd M)[pc]? = some (some q) → decode (am_cc M) pc = .ok (q.1, q.2.1) ∧ am_ck (am_yl M) pc q.1 q.2.2 = true
/-! the class's literals -/
def ss_txt : List String := [".debug_abbrev", ".debug_info", ".debug_str", ".debug_line_str", ".debug_str_offsets", ".debug_addr", ".debug_rnglists", ".debug_line", ".symtab", ".strtab"]
def ss_idx : List Nat := [127, 129, 131, 133, 135, 137, 139, 141, 143, 145]
def ss_len : List Nat := [13, 11, 10, 15, 18, 11, 15, 11, 7, 7]
def ss_byt : List (List Int32) := [[46, 100, 101, 98, 117, 103, 95, 97, 98, 98, 114, 101, 118], [46, 100, 101, 98, 117, 103, 95, 105, 110, 102, 111], [46, 100, 101, 98, 117, 103, 95, 115, 116, 114], [46, 100, 101, 98, 117, 103, 95, 108, 105, 110, 101, 95, 115, 116, 114], [46, 100, 101, 98, 117, 103, 95, 115, 116, 114, 95, 111, 102, 102, 115, 101, 116, 115], [46, 100, 101, 98, 117, 103, 95, 97, 100, 100, 114], [46, 100, 101, 98, 117, 103, 95, 114, 110, 103, 108, 105, 115, 116, 115], [46, 100, 101, 98, 117, 103, 95, 108, 105, 110, 101], [46, 115, 121, 109, 116, 97, 98], [46, 115, 116, 114, 116, 97, 98]]
def am_Xs (S : am_Sy) (ρ : Nat → Nat) (A : Nat → Prop) (s : State) (H : Heap) : Prop := am_ho S = "FrameFinder" → vk_S 10 ss_len ss_byt (fun i => ρ (68 + i)) (fun i => ρ (78 + i)) A s H ∧ (∀ i, i < 10 → vk_R "FrameFinder$Sections" (ss_idx.getD i 0) (ss_txt.getD i "") (ρ (68 + i)) s) ∧ va_Z "java/lang/String" "COMPACT_STRINGS" "Z" (.int 1) A s H
def am_X0 (S : am_Sy) (D : va_G) (ca : Nat → ClassId) (ρ : Nat → Nat) (A : Nat → Prop) (s : State) (H : Heap) : Prop := va_K D (am_cl S) (am_tys ca) s ∧ (∀ w ∈ am_nn S, va_Nw w s) ∧ (∀ q ∈ am_zs S, va_Z q.2.1 q.2.2.1 q.2.2.2 (.ref (ρ q.1)) A s H) ∧
  (∀ k, am_nw S ≤ k → k < am_nt S → va_T .int (ρ k) (am_len (am_sh S) k) (fun j => .int (am_cs S k j)) A s H) ∧ (∀ q ∈ am_ys S, (∃ v : Value, v.isRef = true ∧ va_Z q.1 q.2.1 q.2.2 v A s H) ∧ am_Ls q.1 q.2.1 q.2.2 A s H) ∧ am_Xs S ρ A s H
def am_Ar (S : am_Sy) (ρ : Nat → Nat) (sz : Nat) : Nat → Prop := fun q => (∃ k, k < am_nw S ∧ q = ρ k) ∨ sz ≤ q
def am_Q (S : am_Sy) (D : va_G) (ca : Nat → ClassId) (ρ : Nat → Nat) (A : Nat → Prop) (post : Option Value → am_S → Prop) : Array Value → State → Outcome → State → Prop := fun _ st oc t =>
  (∃ (r : Option Value) (σ : am_S), oc = .returned (r.map (am_v ρ)) ∧ post r σ ∧ va_P D (am_cl S) (am_ws (am_sh S) ca ρ (am_nw S) σ) t.heap) ∧ va_F A st t
abbrev am_Fn : Type := List Frame → Array Value → State → (Nat → Prop) → va_G → (Nat → ClassId) → (Nat → Nat) → State → Prop
/-- the judgement: from this configuration the machine comes to a state with F -/
def am_A (S : am_Sy) (M : am_Me) (f : am_F) (F : am_Fn) : Prop :=
  ∀ (p : Program) (l : Launch) (e : Env) (s : State) (m : MethodId) (args : Array Value) (below : List Frame) (meth : Method) (c : Code) (H : Heap) (locs : List Loc) (ls : Array Slot) (D : va_G) (ca : Nat → ClassId) (ρ : Nat → Nat) (A : Nat → Prop),
    l.stackTraces = false → p.tables.exec = Jvm.exec → c.code = am_cc M → c.maxLocals = am_mx M → c.exceptionTable.isEmpty = true → meth.sig.returnType = am_rt M → meth.locks = false → s.vm.findClass (am_yl M).1 = some m.cls → (∀ w ∈ am_tw S, w.before args s = true) → am_X0 S D ca ρ A s s.heap → (∀ q, s.heap.size ≤ q → A q) →
    am_R (am_cl S) (am_sh S) (am_nw S) D ca ρ A s f.2.2.2 H locs → am_L ρ f.2.1 ls → f.2.1.length = am_mx M →
    W p l e (am_rm M) s m args below meth c H locs 0 0 (F below args s A D ca ρ) (F0 m f.1 ls (f.2.2.1.map (am_v ρ)))
/-- it returns, with 'post' -/
def am_r (S : am_Sy) (post : Option Value → am_S → Prop) : am_Fn := fun below args s A D ca ρ => MQ below (am_Q S D ca ρ A post) args s 0 0 A
theorem am_A_step {S : am_Sy} {M : am_Me} {q : am_I} {d : List Nat} {f : am_F} {g : List Prop × List Nat × am_F} {F : am_Fn} (hS : am_sys S) (hM : am_ok S M) (hq : (am_cd M)[f.1]? = some (some q)) (h : am_step S q d f = some g) (ho : am_all g.1) (k : am_A S M g.2.2 F) : am_A S M f F := by
  obtain ⟨pc, L, st, σ⟩ := f
  intro p l e s m args below meth c H locs ls D ca ρ A hl9 hx hb hml hne hr hlk hown hts hX hA hR hL hlen
  obtain ⟨hd, hck⟩ := hM.2.2.2.2.2 pc q hq
  unfold am_step at h
  dsimp only at h
  split at h
  · rename_i st' h1
    cases h
    exact am_p_ok hx hb hts hown hM.2.2.1 hd hck hL h1 (k p l e s m args below meth c H locs ls D ca ρ A hl9 hx hb hml hne hr hlk hown hts hX hA hR hL hlen)
  · split at h
    · rename_i g1 h1
      cases h
      obtain ⟨ob, d', pc', L', st'⟩ := g1
      exact am_q_ok hx hb hd hck hL h1 ho (fun ls' hL' hl' => k p l e s m args below meth c H locs ls' D ca ρ A hl9 hx hb hml hne hr hlk hown hts hX hA hR hL' (hl'.trans hlen))
    · split at h
      · rename_i g1 h1
        cases h
        obtain ⟨ob, st', σ'⟩ := g1
        exact am_h_ok hx hb hts hX.2.1 hown hX.1 hS.1 hM.2.2.2.1 hM.2.2.2.2.1 hX.2.2.1 hd hck hX.2.2.2.1 h1 ho hR (fun H1 locs1 hR1 => k p l e s m args below meth c H1 locs1 ls D ca ρ A hl9 hx hb hml hne hr hlk hown hts hX hA hR1 hL hlen)
      · cases h
/-- a stretch of n instructions, by the ways d -/
theorem am_A_run {S : am_Sy} {M : am_Me} {F : am_Fn} (hS : am_sys S) (hM : am_ok S M) : ∀ (n : Nat) (d : List Nat) (f : am_F) {ob : List Prop} {f' : am_F}, am_run S M n d f = some (ob, f') → am_all ob → am_A S M f' F → am_A S M f F
  | 0, d, f, ob, f', h, _, k => by
    unfold am_run at h
    cases h
    exact k
  | n + 1, d, f, ob, f', h, ho, k => by
    unfold am_run at h
    split at h
    · rename_i q hq
      split at h
      · rename_i g hg
        split at h
        · rename_i r hr
          cases h
          obtain ⟨ob2, f2⟩ := r
          obtain ⟨o1, o2⟩ := am_all_app ho
          exact am_A_step hS hM hq hg o1 (am_A_run hS hM n _ _ hr o2 k)
        · cases h
      · cases h
    · cases h
theorem am_A_post {S : am_Sy} {M : am_Me} {f : am_F} {P P' : Option Value → am_S → Prop} (h : ∀ r σ, P r σ → P' r σ) (k : am_A S M f (am_r S P)) : am_A S M f (am_r S P') := by
  intro p l e s m args below meth c H locs ls D ca ρ A hl9 hx hb hml hne hr hlk hown hts hX hA hR hL hlen T hT X
  obtain ⟨t, a1, o, b1, b2, ⟨⟨r, σ, q1, q2, q3⟩, q4⟩, b4⟩ := k p l e s m args below meth c H locs ls D ca ρ A hl9 hx hb hml hne hr hlk hown hts hX hA hR hL hlen T hT X
  exact ⟨t, a1, o, b1, b2, ⟨⟨r, σ, q1, h r σ q2, q3⟩, q4⟩, b4⟩
/-! returns -/
theorem am_ret_i {S : am_Sy} {M : am_Me} {pc : Nat} {L : List (Option Value)} {v : Int32} {σ : am_S} {post : Option Value → am_S → Prop} (hM : am_ok S M) (ht : am_rt M = some .int) {x : am_X} (hq : (am_cd M)[pc]? = some (some (.ireturn, 1, x))) (h : post (some (.int v)) σ) : am_A S M (pc, L, [.int v], σ) (am_r S post) := by
  intro p l e s m args below meth c H locs ls D ca ρ A hl9 hx hb hml hne hr hlk hown hts hX hA hR hL hlen
  exact W.iret (v := v) hx hb (hr.trans ht) (fun t ht hW => ⟨⟨some (.int v), σ, rfl, h, by rw [ht]; exact hR.1⟩, hR.2.2.F ht⟩) hR.2.2.2.2 (hM.2.2.2.2.2 pc _ hq).1 hlk
theorem am_ret_z {S : am_Sy} {M : am_Me} {pc : Nat} {L : List (Option Value)} {v : Int32} {σ : am_S} {post : Option Value → am_S → Prop} (hM : am_ok S M) (ht : am_rt M = some .boolean) {x : am_X} (hq : (am_cd M)[pc]? = some (some (.ireturn, 1, x))) (hv : v = 0 ∨ v = 1) (h : post (some (.int v)) σ) : am_A S M (pc, L, [.int v], σ) (am_r S post) := by
  intro p l e s m args below meth c H locs ls D ca ρ A hl9 hx hb hml hne hr hlk hown hts hX hA hR hL hlen
  exact W.zret (v := v) hx hb (hr.trans ht) (by rcases hv with rfl | rfl <;> decide +kernel) (fun t ht hW => ⟨⟨some (.int v), σ, rfl, h, by rw [ht]; exact hR.1⟩, hR.2.2.F ht⟩) hR.2.2.2.2 (hM.2.2.2.2.2 pc _ hq).1 hlk
theorem am_ret_l {S : am_Sy} {M : am_Me} {pc : Nat} {L : List (Option Value)} {v : Int64} {σ : am_S} {post : Option Value → am_S → Prop} (hM : am_ok S M) (ht : am_rt M = some .long) {x : am_X} (hq : (am_cd M)[pc]? = some (some (.lreturn, 1, x))) (h : post (some (.long v)) σ) : am_A S M (pc, L, [.long v], σ) (am_r S post) := by
  intro p l e s m args below meth c H locs ls D ca ρ A hl9 hx hb hml hne hr hlk hown hts hX hA hR hL hlen
  exact W.lret (v := v) hx hb (hr.trans ht) (fun t ht hW => ⟨⟨some (.long v), σ, rfl, h, by rw [ht]; exact hR.1⟩, hR.2.2.F ht⟩) hR.2.2.2.2 (hM.2.2.2.2.2 pc _ hq).1 hlk
theorem am_ret_v {S : am_Sy} {M : am_Me} {pc : Nat} {L : List (Option Value)} {σ : am_S} {post : Option Value → am_S → Prop} (hM : am_ok S M) (ht : am_rt M = none) {x : am_X} (hq : (am_cd M)[pc]? = some (some (.return_, 1, x))) (h : post none σ) : am_A S M (pc, L, [], σ) (am_r S post) := by
  intro p l e s m args below meth c H locs ls D ca ρ A hl9 hx hb hml hne hr hlk hown hts hX hA hR hL hlen
  exact W.vret hx hb (hr.trans ht) (fun t ht hW => ⟨⟨none, σ, rfl, h, by rw [ht]; exact hR.1⟩, hR.2.2.F ht⟩) hR.2.2.2.2 (hM.2.2.2.2.2 pc _ hq).1 hlk
/-! a method's contract -/
def am_Pc (S : am_Sy) (D : va_G) (ca : Nat → ClassId) (ρ : Nat → Nat) (as : List Value) (σ : am_S) (sz : Nat) : Array Value → State → Prop := fun v U => v = (as.map (am_v ρ)).toArray ∧ U.heap.size = sz ∧ va_P D (am_cl S) (am_ws (am_sh S) ca ρ (am_nw S) σ) U.heap ∧ va_D (fun _ => True) (am_ws (am_sh S) ca ρ (am_nw S) σ) ∧ am_X0 S D ca ρ (am_Ar S ρ sz) U U.heap
def am_wm (S : am_Sy) (M : am_Me) : List Cond := .code (am_nm M) (am_cc M) (am_mx M) (am_rt M) :: am_tw S
def am_Mt (S : am_Sy) (M : am_Me) (as : List Value) (σ : am_S) (post : Option Value → am_S → Prop) : Prop := ∀ (l : Launch), l.stackTraces = false → ∀ (D : va_G) (ca : Nat → ClassId) (ρ : Nat → Nat) (sz : Nat),
  Met l (am_nm M) (am_wm S M) (am_rm M) (am_Pc S D ca ρ as σ sz) (am_Q S D ca ρ (am_Ar S ρ sz) post) 0 0 (am_Ar S ρ sz)
theorem am_D_ar {S : am_Sy} {ca : Nat → ClassId} {ρ : Nat → Nat} {σ : am_S} {A : Nat → Prop} {sz : Nat} (h : va_D A (am_ws (am_sh S) ca ρ (am_nw S) σ)) : va_D (am_Ar S ρ sz) (am_ws (am_sh S) ca ρ (am_nw S) σ) := by
  refine h.weaken (fun k q hk _ => ?_)
  have hlt : k < am_nw S := by
    have := (List.getElem?_eq_some_iff.mp hk).1
    rwa [am_ws_len] at this
  rw [am_ws_at hlt] at hk
  cases hk
  exact Or.inl ⟨k, hlt, rfl⟩
theorem am_D_mv {sh : Nat → am_C} {ca : Nat → ClassId} {ρ : Nat → Nat} {N : Nat} {σ τ : am_S} {A : Nat → Prop} (h : va_D A (am_ws sh ca ρ N σ)) : va_D A (am_ws sh ca ρ N τ) := by
  have key : ∀ (k : Nat) (q : Nat × va_E), (am_ws sh ca ρ N τ)[k]? = some q → ∃ q', (am_ws sh ca ρ N σ)[k]? = some q' ∧ q'.1 = q.1 := by
    intro k q hk
    have hlt : k < N := by
      have := (List.getElem?_eq_some_iff.mp hk).1
      rwa [am_ws_len] at this
    rw [am_ws_at hlt] at hk
    cases hk
    exact ⟨_, am_ws_at hlt, rfl⟩
  refine ⟨fun i j p q hp hq e => ?_, fun k q hk => ?_⟩
  · obtain ⟨p', h1, e1⟩ := key i p hp
    obtain ⟨q', h2, e2⟩ := key j q hq
    exact h.1 i j p' q' h1 h2 (by rw [e1, e2]; exact e)
  · obtain ⟨q', h1, e1⟩ := key k q hk
    rw [← e1]
    exact h.2 k q' h1
theorem am_M_of {S : am_Sy} {M : am_Me} {as : List Value} {σ : am_S} {post : Option Value → am_S → Prop} (hM : am_ok S M) (hn : (am_en as).length ≤ am_mx M) (k : am_A S M (0, am_ent as (am_mx M), [], σ) (am_r S post)) : am_Mt S M as σ post := by
  intro l hl9 D ca ρ sz
  refine Met.ofW (cc := am_cc M) (maxL := am_mx M) (ret := am_rt M) hM.1 rfl ?_
  intro p e s m args below meth c s₁ B hml hv
  obtain ⟨rfl, hsz, hP, hD, hX⟩ := hv
  have hts := atoms_spec (ws := am_wm S M) B.pre
  have hown : s.vm.findClass (am_nm M).cls = some m.cls := findClass_of_methodNamed B.named
  rw [hM.2.1] at hown
  subst hsz
  have hl := lv_entry (as.map (am_v ρ)) (n := am_mx M) (by rw [am_en_len]; exact hn)
  rw [lg_entry_eq]
  have hL := am_ent_ok (ρ := ρ) hn hl
  exact k p l e s m _ below meth c s.heap [] _ D ca ρ (am_Ar S ρ s.heap.size) hl9 B.exec B.bytes hml (B.noHandlers (hts _ List.mem_cons_self)) B.returns B.notSynchronized hown (fun w hw => hts w (List.mem_cons_of_mem _ hw)) hX (fun q hq => Or.inr hq) ⟨hP, am_D_ar hD, va_S.rf⟩ hL (by simp [am_ent]; omega)
