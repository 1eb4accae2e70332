/-! calls -/
theorem am_X0_warm {S : am_Sy} (hS : am_sys S) {D : va_G} {ca : Nat → ClassId} {ρ : Nat → Nat} {A : Nat → Prop} {s U : State} {H : Heap} (hW : s.WarmedH U.vm) (h : am_X0 S D ca ρ A s H) : am_X0 S D ca ρ A U H :=
  ⟨va_K.moved hW.alike h.1, fun w hw => am_nest_warm (hS.2.2 w hw) hW (h.2.1 w hw), fun q hq => (h.2.2.1 q hq).moved hW.alike, fun k h1 h2 => (h.2.2.2.1 k h1 h2).moved hW.alike, fun q hq => by obtain ⟨⟨v, hv, hz⟩, hy⟩ := h.2.2.2.2.1 q hq; exact ⟨⟨v, hv, hz.moved hW.alike⟩, hy.moved hW.alike⟩, fun e => ⟨(h.2.2.2.2.2 e).1.moved hW.alike, fun i hi => vk_R.warm hW ((h.2.2.2.2.2 e).2.1 i hi), (h.2.2.2.2.2 e).2.2.moved hW.alike⟩⟩
theorem am_nest_tab {w : Cond} (h : am_nest w = true) : w.onTables = true := by
  cases w <;> first | rfl | cases h
theorem am_X0_same {S : am_Sy} (hS : am_sys S) {D : va_G} {ca : Nat → ClassId} {ρ : Nat → Nat} {A : Nat → Prop} {s U : State} {H : Heap} (hv : s.vm = U.vm) (h : am_X0 S D ca ρ A s H) : am_X0 S D ca ρ A U H := by
  have ha : s.vm.Alike U.vm := hv ▸ Vm.Alike.refl s.vm
  exact ⟨va_K.moved ha h.1, fun w hw => (h.2.1 w hw).same (am_nest_tab (hS.2.2 w hw)) hv, fun q hq => (h.2.2.1 q hq).moved ha, fun k h1 h2 => (h.2.2.2.1 k h1 h2).moved ha, fun q hq => by obtain ⟨⟨v, hv, hz⟩, hy⟩ := h.2.2.2.2.1 q hq; exact ⟨⟨v, hv, hz.moved ha⟩, hy.moved ha⟩, fun e => ⟨(h.2.2.2.2.2 e).1.moved ha, fun i hi => vk_R.same hv.symm ((h.2.2.2.2.2 e).2.1 i hi), (h.2.2.2.2.2 e).2.2.moved ha⟩⟩
theorem am_X0_heap {S : am_Sy} {D : va_G} {ca : Nat → ClassId} {ρ : Nat → Nat} {A B : Nat → Prop} {s : State} {H H1 : Heap} (hq : ∀ a : Nat, a < H.size → ¬ A a → H1[a]? = H[a]?) (hB : ∀ q, B q → A q) (h : am_X0 S D ca ρ A s H) : am_X0 S D ca ρ B s H1 :=
  ⟨h.1, h.2.1, fun q hq' => ((h.2.2.1 q hq').kept hq).narrow hB, fun k h1 h2 => ((h.2.2.2.1 k h1 h2).kept hq).narrow hB, fun q hq' => by obtain ⟨⟨v, hv, hz⟩, hy⟩ := h.2.2.2.2.1 q hq'; exact ⟨⟨v, hv, (hz.kept hq).narrow hB⟩, (hy.kept hq).narrow hB⟩, fun e => ⟨((h.2.2.2.2.2 e).1.kept hq).narrow hB, (h.2.2.2.2.2 e).2.1, ((h.2.2.2.2.2 e).2.2.kept hq).narrow hB⟩⟩
theorem am_Pc_blind {S : am_Sy} (hS : am_sys S) {D : va_G} {ca : Nat → ClassId} {ρ : Nat → Nat} {as : List Value} {σ : am_S} {sz : Nat} : FrameBlind (am_Pc S D ca ρ as σ sz) := by
  intro a U g mk ⟨h1, h2, h3, h4, h5⟩
  exact ⟨h1, h2, h3, h4, am_X0_same hS (s := U) (U := U.calling g mk a) rfl h5⟩
theorem am_Ar_in {S : am_Sy} {ca : Nat → ClassId} {ρ : Nat → Nat} {A : Nat → Prop} {σ : am_S} {H0 H : Heap} (hA : ∀ q, H0.size ≤ q → A q) (hz : H0.size ≤ H.size) (hD : va_D A (am_ws (am_sh S) ca ρ (am_nw S) σ)) : ∀ q, am_Ar S ρ H.size q → A q := by
  intro q hq
  rcases hq with ⟨k, hk, rfl⟩ | hq
  · exact hD.2 k _ (am_ws_at hk)
  · exact hA q (Nat.le_trans hz hq)
def am_lk (S : am_Sy) (M M2 : am_Me) (idx : Nat) (nest : Bool) (n : Nat) : Prop :=
  (nest = false → Cond.methodLink (am_yl M).1 idx (am_nm M2) ∈ am_tw S) ∧ (nest = true → Cond.methodLinkNest (am_yl M).1 idx (am_nm M2) (am_ho S) ∈ am_nn S) ∧ Cond.code (am_nm M2) (am_cc M2) (am_mx M2) (am_rt M2) ∈ am_tw S ∧ Cond.initialized (am_nm M2).cls ∈ am_tw S ∧
  ((am_nm M2).cls ≠ "java/lang/invoke/MethodHandle" ∧ (am_nm M2).cls ≠ "java/lang/invoke/VarHandle" ∧ (parseMethodDescriptor (am_nm M2).desc).map (fun d => d.parameters.length) = some n) ∧ (am_rm M2).frames + 1 ≤ (am_rm M).frames ∧ (am_rm M2).cells = 0 ∧ (am_rm M2).slots = 0 ∧ 8 + (am_mx M2 + 11) + (am_rm M2).locals ≤ (am_rm M).locals
theorem am_pay {S : am_Sy} {M2 : am_Me} {args : Array Value} {s : State} (hS : am_sys S) (hts : ∀ w ∈ am_tw S, w.before args s = true) (hc : Cond.code (am_nm M2) (am_cc M2) (am_mx M2) (am_rt M2) ∈ am_tw S) : ∀ w ∈ am_wm S M2, ∀ (a' : Array Value) (U : State), s.WarmedH U.vm → w.before a' U = true := by
  intro w hw a' U hW
  have hw : w ∈ am_tw S := by
    rcases List.mem_cons.mp hw with e | e
    · rw [e]; exact hc
    · exact e
  exact word_at hW (good_of_word (hS.2.1 w hw)) (hts w hw)
theorem am_map_toList {f : Value → Value} (r : Option Value) (l : List Value) : (r.map f).toList ++ l.map f = (r.toList ++ l).map f := by
  cases r <;> simp
theorem am_back {S : am_Sy} {M : am_Me} {pc : Nat} {L : List (Option Value)} {rest st0 : List Value} {σ : am_S} {F : am_Fn} {post2 : Option Value → am_S → Prop} (kk : ∀ r σ', post2 r σ' → am_A S M (pc + 3, L, r.toList ++ rest, σ') F)
    {p : Program} {l : Launch} {e : Env} {s : State} {m : MethodId} {args : Array Value} {below : List Frame} {meth : Method} {c : Code} {H : Heap} {locs : List Loc} {ls : Array Slot} {D : va_G} {ca : Nat → ClassId} {ρ : Nat → Nat} {A : Nat → Prop} {a : Array Value}
    (hl9 : l.stackTraces = false) (hx : p.tables.exec = Jvm.exec) (hb : c.code = am_cc M) (hml : c.maxLocals = am_mx M) (hne : c.exceptionTable.isEmpty = true) (hr : meth.sig.returnType = am_rt M) (hlk : meth.locks = false) (hown : s.vm.findClass (am_yl M).1 = some m.cls) (hts : ∀ w ∈ am_tw S, w.before args s = true) (hX : am_X0 S D ca ρ A s s.heap) (hA : ∀ q, s.heap.size ≤ q → A q)
    (hR : am_R (am_cl S) (am_sh S) (am_nw S) D ca ρ A s σ H locs) (hL : am_L ρ L ls) (hlen : L.length = am_mx M)
    (hrun : va_Run p l e (am_rm M) s m args below meth c H locs 0 0 0 0 (F0 m pc ls st0) (rest.map (am_v ρ)) (am_Q S D ca ρ (am_Ar S ρ H.size) post2 a) (am_Ar S ρ H.size)) :
    W p l e (am_rm M) s m args below meth c H locs 0 0 (F below args s A D ca ρ) (F0 m pc ls st0) := by
  intro T hT X
  obtain ⟨v, st₀, t, T', L1, h0, X', hL1, e1, e2, ⟨⟨r, σ', q1, q2, q3⟩, q4⟩, st⟩ := hrun T hT X
  have hv : v = r.map (am_v ρ) := Outcome.returned.inj q1
  subst hv
  have hAr := am_Ar_in (S := S) hA hR.2.2.1 hR.2.1
  obtain ⟨z1, z2⟩ := q4
  rw [h0] at z1 z2
  have hR' : am_R (am_cl S) (am_sh S) (am_nw S) D ca ρ A s σ' T'.heap (locs ++ L1) := by
    refine ⟨by rw [e1]; exact q3, am_D_mv hR.2.1, by rw [e1]; exact Nat.le_trans hR.2.2.1 z1, fun q h1 h2 => ?_, fun q hq => ?_⟩
    · rw [e1, z2 q (Nat.lt_of_lt_of_le h1 hR.2.2.1) (fun z => h2 (hAr q z))]
      exact hR.2.2.2.1 q h1 h2
    · rcases List.mem_append.mp hq with h | h
      · exact hR.2.2.2.2 q h
      · exact hAr _ (hL1 q h)
  obtain ⟨t2, a1, b1⟩ := kk r σ' q2 p l e s m args below meth c T'.heap (locs ++ L1) ls D ca ρ A hl9 hx hb hml hne hr hlk hown hts hX hA hR' hL hlen T' rfl X'
  refine ⟨t2, st t2 ?_, b1⟩
  rw [am_map_toList]
  exact a1
theorem am_callV {S : am_Sy} {M M2 : am_Me} {pc idx n k ci : Nat} {nest : Bool} {x : am_X} {L : List (Option Value)} {as rest : List Value} {σ : am_S} {F : am_Fn} {post2 : Option Value → am_S → Prop} {ks : List am_K} {q : vw_C} (hS : am_sys S) (hM : am_ok S M) (hq : (am_cd M)[pc]? = some (some (.invokevirtual idx, 3, x)))
    (hlk2 : am_lk S M M2 idx nest n) (hi : Cond.instanceMethod (am_nm M2) ∈ am_tw S) (hse : Cond.selects (am_nm M2).cls (am_nm M2) (am_nm M2) ∈ am_tw S) (hk : k < am_nw S) (hsh : am_sh S k = .inr (ci, ks)) (hci : (am_cl S)[ci]? = some q) (hqc : q.1 = (am_nm M2).cls) (hn : as.length = n) (hw : (rest.map Value.category).sum ≤ 8)
    (hM2 : am_Mt S M2 (.ref k :: as) σ post2) (kk : ∀ r σ', post2 r σ' → am_A S M (pc + 3, L, r.toList ++ rest, σ') F) : am_A S M (pc, L, as.reverse ++ .ref k :: rest, σ) F := by
  intro p l e s m args below meth c H locs ls D ca ρ A hl9 hx hb hml hne hr hlk hown hts hX hA hR hL hlen
  obtain ⟨l1, l2, l3, l4, l5, l6, l8, l9, l7⟩ := hlk2
  have hd := (hM.2.2.2.2.2 pc _ hq).1
  have he := am_ws_at (sh := am_sh S) (ca := ca) (ρ := ρ) (σ := σ) hk
  rw [am_cell_o hsh] at he
  have hrec := va_recv hX.1 hR.1 hci he
  rw [hqc] at hrec
  have hAr := am_Ar_in (S := S) hA hR.2.2.1 hR.2.1
  have hpre : PreV s H (am_nm M2).cls (ρ k) (am_Pc S D ca ρ (.ref k :: as) σ H.size) (as.map (am_v ρ)) :=
    ⟨am_Pc_blind hS, hrec, fun U hU hW => ⟨rfl, by rw [hU], by rw [hU]; exact hR.1, hR.2.1.weaken (fun _ _ _ _ => trivial), by rw [hU]; exact am_X0_warm hS hW (am_X0_heap hR.2.2.2.1 hAr hX)⟩⟩
  have hst : (F0 m pc ls ((as.reverse ++ .ref k :: rest).map (am_v ρ))).stack = (as.map (am_v ρ)).reverse ++ .ref (ρ k) :: rest.map (am_v ρ) := by
    show (as.reverse ++ .ref k :: rest).map (am_v ρ) = _
    simp [List.map_append, am_v]
  have hwr : 2 * (F0 m pc ls ((as.reverse ++ .ref k :: rest).map (am_v ρ))).monitorRoom + ((rest.map (am_v ρ)).map fun v => v.category).sum ≤ 8 := by
    have e : ((rest.map (am_v ρ)).map fun v => v.category) = rest.map Value.category := by
      rw [List.map_map]
      exact List.map_congr_left (fun v _ => am_v_cat ρ v)
    exact lv_room (by rw [e]; exact hw)
  have hlen2 : ∀ sig, parseMethodDescriptor (am_nm M2).desc = some sig → n = sig.parameters.length := by
    intro sig h
    have h2 := l5.2.2
    rw [h] at h2
    exact (Option.some.inj h2).symm
  have hcode := hts _ l3
  have hpay := am_pay hS hts l3
  refine am_back (a := (Value.ref (ρ k) :: as.map (am_v ρ)).toArray) kk hl9 hx hb hml hne hr hlk hown hts hX hA hR hL hlen ?_
  cases nest with
  | false => exact va_runV (C := (am_nm M2).cls) ⟨hx, hb, hml, hown, hts⟩ (hM2 l hl9 D ca ρ H.size) ⟨⟨l8, l9, l6, l7, hpay, List.mem_cons_self, hcode, hts _ l4, ⟨l5.1, l5.2.1⟩, hlen2, hts _ (l1 rfl)⟩, hts _ hi, hts _ hse⟩ hpre rfl (by simpa using hn) (hL.1.trans hlen) hst hwr hd ⟨Nat.zero_le _, Nat.zero_le _⟩
  | true => exact va_runVN (C := (am_nm M2).cls) (host := am_ho S) ⟨hx, hb, hml, hown, hts⟩ (hM2 l hl9 D ca ρ H.size) ⟨⟨⟨l8, l9, l6, l7, hpay, List.mem_cons_self⟩, hcode, hts _ l4, ⟨l5.1, l5.2.1⟩, hlen2, va_Nw.use rfl (hX.2.1 _ (l2 rfl))⟩, hts _ hi, hts _ hse⟩ hpre rfl (by simpa using hn) (hL.1.trans hlen) hst hwr hd ⟨Nat.zero_le _, Nat.zero_le _⟩
theorem am_callS {S : am_Sy} {M M2 : am_Me} {pc idx n : Nat} {nest : Bool} {x : am_X} {L : List (Option Value)} {as rest : List Value} {σ : am_S} {F : am_Fn} {post2 : Option Value → am_S → Prop} (hS : am_sys S) (hM : am_ok S M) (hq : (am_cd M)[pc]? = some (some (.invokestatic idx, 3, x)))
    (hlk2 : am_lk S M M2 idx nest n) (hi : Cond.static (am_nm M2) ∈ am_tw S) (hn : as.length = n) (hw : (rest.map Value.category).sum ≤ 8)
    (hM2 : am_Mt S M2 as σ post2) (kk : ∀ r σ', post2 r σ' → am_A S M (pc + 3, L, r.toList ++ rest, σ') F) : am_A S M (pc, L, as.reverse ++ rest, σ) F := by
  intro p l e s m args below meth c H locs ls D ca ρ A hl9 hx hb hml hne hr hlk hown hts hX hA hR hL hlen
  obtain ⟨l1, l2, l3, l4, l5, l6, l8, l9, l7⟩ := hlk2
  have hd := (hM.2.2.2.2.2 pc _ hq).1
  have hAr := am_Ar_in (S := S) hA hR.2.2.1 hR.2.1
  have hpre : PreS s H (am_Pc S D ca ρ as σ H.size) (as.map (am_v ρ)) :=
    ⟨am_Pc_blind hS, fun U hU hW => ⟨rfl, by rw [hU], by rw [hU]; exact hR.1, hR.2.1.weaken (fun _ _ _ _ => trivial), by rw [hU]; exact am_X0_warm hS hW (am_X0_heap hR.2.2.2.1 hAr hX)⟩⟩
  have hst : (F0 m pc ls ((as.reverse ++ rest).map (am_v ρ))).stack = (as.map (am_v ρ)).reverse ++ rest.map (am_v ρ) := by
    show (as.reverse ++ rest).map (am_v ρ) = _
    simp [List.map_append]
  have hwr : 2 * (F0 m pc ls ((as.reverse ++ rest).map (am_v ρ))).monitorRoom + ((rest.map (am_v ρ)).map fun v => v.category).sum ≤ 8 := by
    have e : ((rest.map (am_v ρ)).map fun v => v.category) = rest.map Value.category := by
      rw [List.map_map]
      exact List.map_congr_left (fun v _ => am_v_cat ρ v)
    exact lv_room (by rw [e]; exact hw)
  have hlen2 : ∀ sig, parseMethodDescriptor (am_nm M2).desc = some sig → n = sig.parameters.length := by
    intro sig h
    have h2 := l5.2.2
    rw [h] at h2
    exact (Option.some.inj h2).symm
  have hcode := hts _ l3
  have hpay := am_pay hS hts l3
  refine am_back (a := (as.map (am_v ρ)).toArray) kk hl9 hx hb hml hne hr hlk hown hts hX hA hR hL hlen ?_
  cases nest with
  | false => exact va_runS ⟨hx, hb, hml, hown, hts⟩ (hM2 l hl9 D ca ρ H.size) ⟨⟨l8, l9, l6, l7, hpay, List.mem_cons_self, hcode, hts _ l4, ⟨l5.1, l5.2.1⟩, hlen2, hts _ (l1 rfl)⟩, hts _ hi⟩ hpre rfl (by simpa using hn) (hL.1.trans hlen) hst hwr hd ⟨Nat.zero_le _, Nat.zero_le _⟩
  | true => exact va_runSN (host := am_ho S) ⟨hx, hb, hml, hown, hts⟩ (hM2 l hl9 D ca ρ H.size) ⟨⟨⟨l8, l9, l6, l7, hpay, List.mem_cons_self⟩, hcode, hts _ l4, ⟨l5.1, l5.2.1⟩, hlen2, va_Nw.use rfl (hX.2.1 _ (l2 rfl))⟩, hts _ hi, trivial⟩ hpre rfl (by simpa using hn) (hL.1.trans hlen) hst hwr hd ⟨Nat.zero_le _, Nat.zero_le _⟩
