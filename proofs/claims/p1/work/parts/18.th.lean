/-! throwing a new exception of a class without a message, over a launch without stack traces; catching it -/
theorem wt_off {l : Launch} {e : Env} (h : l.admits e) (hl : l.stackTraces = false) : e.platform.stackTraces = false := by
  have h5 := h.2.2.2.2.1
  rw [h5]
  exact hl
section WTH
variable {p : Program} {l : Launch} {e : Env} {R : Room} {s : State} {m : MethodId} {args : Array Value} {below : List Frame} {meth : Method} {c : Code} {H : Heap} {locs : List Loc} {cells slots : Nat} {Q : State → Prop} {cc : ByteArray} {pc : Nat} {ls : Array Slot}
set_option maxHeartbeats 4000000 in
theorem wt_ctor0 (hx : p.tables.exec = Jvm.exec) (hb : c.code = cc) (hl : l.stackTraces = false) {own X : String} {names : List String} {ic : Nat} (hown : s.vm.findClass own = some m.cls) (hX : Bundle.fit X = true) (hnames : ∀ n ∈ names, Bundle.fit n = true) (hw : ∀ a ∈ Bundle.ownAtoms0 own ic X names, a.before args s = true)
    {A : Nat → Prop} {v9 : Value} (hlocs : ∀ y ∈ locs, A y.base) (hz9 : va_Z Bundle.tN "UNASSIGNED_STACK" Bundle.steD v9 A s s.heap) {a : Addr} {cX : ClassId} {kX : Class} (hf : s.vm.findClass X = some cX) (hk : s.vm.classes[cX]? = some kX) (hcell : H[a]? = some (freshCell cX kX)) (hnew : s.heap.size ≤ a) {rest : List Value} (hsz : ls.size = c.maxLocals)
    (hd : decode cc pc = .ok (.invokespecial ic, 3)) (hRf : names.length + 3 < R.frames) (hRl : ((Value.ref a :: rest).map fun v => v.category).sum + (13 * (names.length + 1) + 41) ≤ R.locals)
    (kk : ∀ (H' : Heap) (ce : Cell) (locs' : List Loc), H'.size = H.size → (∀ q, q ≠ a → H'[q]? = H[q]?) → H'[a]? = some ce → ce.cls = cX → ce.vm = .none → (∀ y ∈ locs', y ∈ locs ∨ y.base = a) → W p l e R s m args below meth c H' locs' cells slots Q (F0 m (pc + 3) ls (.ref a :: rest))) :
    W p l e R s m args below meth c H locs cells slots Q (F0 m pc ls (.ref a :: .ref a :: rest)) := by
  intro T hT St
  have htr := wt_off St.admits hl
  have hmag : e.platform.magicAccessors = ({} : Platform).magicAccessors := by rw [St.admits.platform]
  have hmon : e.platform.frameOwnsMonitors = true := by rw [St.admits.platform]
  have hfinz : e.platform.finalization = false := by rw [St.admits.platform]
  have hh : ∀ w, w ∈ Bundle.ownAtoms0 own ic X names → w.holds args s none s [] = true := fun w hw' => hw w hw'
  obtain ⟨B, Z, LB, LZ, Y⟩ := ThrowableC.of_atoms (args := args) hmon hfinz hmag (fun w hw' => hw w (by simp [Bundle.ownAtoms0, hw']))
  obtain ⟨P1, Ps, hlen, L1, hL, hm1, hs1, hps⟩ := Bundle.chain0 (args := args) hmag Y.init0 names X hX hnames (fun w hw' => hw w (by simp [Bundle.ownAtoms0, hw']))
  have hf1 : s.vm.findClass X = some P1.m.cls := findClass_of_methodNamed hm1
  have ecX : cX = P1.m.cls := Option.some.inj (hf.symm.trans hf1)
  subst ecX
  obtain ⟨c1, k1, hc1, hk1, hord, -, -, hn6⟩ := Cond.instantiable_spec (hh (.instantiable X 6) (by simp [Bundle.ownAtoms0]))
  have ec1 : c1 = P1.m.cls := Option.some.inj (hc1.symm.trans hf1)
  subst ec1
  have ek1 : k1 = kX := Option.some.inj (hk1.symm.trans hk)
  subst ek1
  have sel : ∀ (y : MethodName) (i : MethodId), y ∈ [Bundle.tFill0, Bundle.tFill] → s.methodNamed? y = some i → (Cond.selects X y y).holds args s none s [] = true → selectMethod e.platform s.vm P1.m.cls i = .method i := by
    intro y i hy hi hs
    obtain ⟨c2, r2, m2, q1, q2, q3, q4, -⟩ := Cond.selects_spec hs
    have e1 : c2 = P1.m.cls := Option.some.inj (q1.symm.trans hf1)
    subst e1
    have hne : y.cls ≠ "java/lang/invoke/MethodHandle" ∧ y.cls ≠ "java/lang/invoke/VarHandle" := by
      simp only [List.mem_cons, List.not_mem_nil, or_false] at hy
      rcases hy with rfl | rfl <;> decide
    have e2 : r2 = i := Option.some.inj (q2.symm.trans (State.methodFound?_of_named hi hne))
    subst e2
    have e3 : m2 = r2 := Option.some.inj (q3.symm.trans hi)
    subst e3
    rw [Launch.admits_selectMethod St.admits]
    exact q4
  have hsel0 := sel _ _ (by simp) Y.fill0 (hh (.selects X Bundle.tFill0 Bundle.tFill0) (by simp [Bundle.ownAtoms0]))
  have hself := sel _ _ (by simp) Y.fill (hh (.selects X Bundle.tFill Bundle.tFill) (by simp [Bundle.ownAtoms0]))
  obtain ⟨cS, hcS, hisS⟩ := Y.statics
  obtain ⟨u0, hu0⟩ := Cond.staticRefV Y.unassigned LB.unassignedStatic LB.statics hcS hisS (hh (.isRef (.static Bundle.tN "UNASSIGNED_STACK" Bundle.steD)) (by simp [Bundle.ownAtoms0]))
  obtain ⟨u1, hu1⟩ := Cond.staticRefV Y.sentinel LB.sentinelStatic LB.statics hcS hisS (hh (.isRef (.static Bundle.tN "SUPPRESSED_SENTINEL" Bundle.listD)) (by simp [Bundle.ownAtoms0]))
  obtain ⟨ci, ix, fB, b1, b2, b3, b4, -, b5, b6, b7⟩ := Cond.ownField (t := .object "java/lang/Object") Y.found LB.cls (by decide +kernel) (hh (.fieldLink Bundle.tN 198 Bundle.tN "backtrace" "Ljava/lang/Object;") (by simp [Bundle.ownAtoms0])) (hh (.lays Bundle.tN Bundle.tN "backtrace" "Ljava/lang/Object;") (by simp [Bundle.ownAtoms0])) e.platform hmag
  obtain ⟨cT, hcT, hvmT, -, hkeep⟩ := St.same.2.2.2.2.2 B.aS cS hcS
  have hcT : T.heap[B.aS]? = some cT := hcT
  have hoff : ∀ i, (⟨B.aS, i⟩ : Loc) ∉ locs := by
    intro i hi
    obtain ⟨cf, kf, fi, f, a9, cell9, z1, z2, z3, z4, z5, z6, z7, z8⟩ := hz9
    have e9 := Option.some.inj (z1.symm.trans Y.unassigned)
    have e8 : kf = B.kT := congrArg (fun q => q.2.1) e9
    rw [e8] at z4
    have e7 : a9 = B.aS := Option.some.inj (z4.symm.trans LB.statics)
    rw [e7] at z8
    exact z8 (hlocs _ hi)
  have hunk : cT.vm ≠ .unknown := by
    rw [hvmT]
    intro h9
    rw [show cS.vm = .unknown from h9] at hisS
    cases hisS
  have hne : B.aS ≠ a := Nat.ne_of_lt (Nat.lt_of_lt_of_le (Array.getElem?_eq_some_iff.mp hcS).1 hnew)
  obtain ⟨y1, d1, f1, n1⟩ := Cond.laysAt hf1 hk Y.cause (hh (.lays X Bundle.tN "cause" "Ljava/lang/Throwable;") (by simp [Bundle.ownAtoms0]))
  obtain ⟨y2, d2, f2, n2⟩ := Cond.laysAt hf1 hk Y.stack (hh (.lays X Bundle.tN "stackTrace" Bundle.steD) (by simp [Bundle.ownAtoms0]))
  obtain ⟨y3, d3, f3, n3⟩ := Cond.laysAt hf1 hk Y.supp (hh (.lays X Bundle.tN "suppressedExceptions" Bundle.listD) (by simp [Bundle.ownAtoms0]))
  obtain ⟨y4, d4, f4, n4⟩ := Cond.laysAt hf1 hk b7 (hh (.lays X Bundle.tN "backtrace" "Ljava/lang/Object;") (by simp [Bundle.ownAtoms0]))
  have w1 := Cond.laysApart f4 f1 n4 n1 (by rw [b5, Y.causeName]; decide)
  have w2 := Cond.laysApart f4 f2 n4 n2 (by rw [b5, Y.stackName]; decide)
  have w3 := Cond.laysApart f4 f3 n4 n3 (by rw [b5, Y.suppName]; decide)
  have hskip : SkipFacts B e.platform s (fun u => u) u0 ((preparedCellV B.toThrowableT (freshCell P1.m.cls k1) a u0 u1).withEntry T.cur) := by
    refine ⟨{ ci198 := ci, i198 := ix, fBack := fB }, ⟨b1, b2, b3, b4⟩, ?_, fun _ _ => rfl⟩
    have h9 := fresh_default (c := P1.m.cls) y4
    rw [b6] at h9
    simpa [preparedCellV, Cell.setSlot, Cell.withEntry, Array.getElem?_setIfInBounds, w1, w2, w3, w1.symm, w2.symm, w3.symm, defaultValue] using h9
  obtain ⟨tm, me, cd, kc, vm1, hn1, -, -, -, -, -, -, -, hW1, st1⟩ := Steps.initCold (tb := p.tables) (e := e) (below := below) (s := s) (U := T) St.here hx St.warmed hmag hown (t := Bundle.init0 X) rfl rfl (Bundle.fit_spec hX).2
    (hh (.methodLink own ic (Bundle.init0 X)) (by simp [Bundle.ownAtoms0])) (hw (.instanceMethod (Bundle.init0 X)) (by cases names <;> simp [Bundle.ownAtoms0, Bundle.chain0Atoms, Bundle.passAtoms])) (bytes := Bundle.five) (maxL := 1) (hw (.code (Bundle.init0 X) Bundle.five 1 none) (by cases names <;> simp [Bundle.ownAtoms0, Bundle.chain0Atoms, Bundle.passAtoms]))
    (f := F0 m pc ls (.ref a :: .ref a :: rest)) rfl (a := a) (rest := .ref a :: rest) rfl (by rw [hb]; exact hd)
  have etm : tm = P1.m := Option.some.inj (hn1.symm.trans hm1)
  subst etm
  have St1 := St.noted hW1
  obtain ⟨vm2, St2, st2⟩ := St1.ctorPlainOffV hx (g := F0 m pc ls (.ref a :: rest)) rfl hsz B LB Z LZ (P1 :: Ps)
    (fun P hP => by rcases List.mem_cons.mp hP with e9 | hP; · rw [e9]; exact L1
                    · exact hL P hP) ⟨hs1, hps⟩ (u0 := u0) (sen := u1) (self := a) (cell := freshCell P1.m.cls k1) (cellS := cT)
    (by rw [← hT] at hcell; exact hcell) (fun _ => by simp) (by simp) rfl rfl hsel0 hself hcT hne hunk (by rw [hkeep _ (hoff _)]; exact hu0) (by rw [hkeep _ (hoff _)]; exact hu1)
    (Takes.of_laid hk hord y1 (by rw [Y.causeType]; rfl)) (Takes.of_laid hk hord y2 (by rw [Y.stackType]; exact fits_refV_array _ u0)) (Takes.of_laid hk hord y3 (by rw [Y.suppType]; exact fits_refV_object _ u1)) Y.objLocals hskip htr [] (by rw [hb]; exact hd)
    (by simp only [List.length_cons, hlen]; omega) (by
      simp only [List.length_cons, hlen]
      have h0 : 2 * (F0 m pc ls (.ref a :: rest)).monitorRoom = 0 := by
        have h9 := lv_room (m := m) (pc := pc) (ls := ls) (rest := (.ref a :: rest)) (st := ([] : List Value)) (by simp)
        simp [JFrame.monitorRoom]
      rw [h0, Nat.zero_add]
      exact hRl)
  have hlt : a < T.heap.size := by
    rw [hT]
    exact (Array.getElem?_eq_some_iff.mp hcell).1
  obtain ⟨t, q1, q2⟩ := kk (((T.setVm vm1).setVm vm2).setCell a ((preparedCellV B.toThrowableT (freshCell P1.m.cls k1) a u0 u1).setSlot B.fStack.slot u0.v)).heap ((preparedCellV B.toThrowableT (freshCell P1.m.cls k1) a u0 u1).setSlot B.fStack.slot u0.v) _
    (by rw [← hT]; simp [State.setCell, State.setVm]) (fun q hq => by rw [← hT]; simp [State.setCell, State.setVm, Array.getElem?_setIfInBounds, Ne.symm hq]) (by simp [State.setCell, State.setVm, hlt]) rfl rfl (fun y hy => by
      rcases List.mem_append.mp hy with h1 | h1
      · exact Or.inl h1
      · simp only [List.mem_cons, List.not_mem_nil, or_false] at h1
        rcases h1 with rfl | rfl | rfl | rfl <;> exact Or.inr rfl) _ rfl St2
  refine ⟨t, st1 _ (fun acts => ?_), q2⟩
  rw [doInvoke_state]
  exact st2 _ q1
/-- athrow, out of the method -/
theorem wt_athrow (hx : p.tables.exec = Jvm.exec) (hb : c.code = cc) {a : Addr} {rest : List Value} (hout : ∀ y ∈ c.exceptionTable.toList, covers y pc = false) (hd : decode cc pc = .ok (.athrow, 1)) (hlk : meth.locks = false)
    (kk : ∀ t : State, t.heap = H → t.status = .running → Ended t below (.threw a) → s.WarmedH t.vm → s.sameButNew ({ t with vm := s.vm } : State) locs cells slots → Q t) : W p l e R s m args below meth c H locs cells slots Q (F0 m pc ls (.ref a :: rest)) := by
  intro T hT St
  obtain ⟨h1, h2, h3, h4, h5⟩ := St.athrowLeaves hx (g := F0 m pc ls (.ref a :: rest)) rfl rfl rfl hout (a := a) (rest := rest) rfl (by rw [hb]; exact hd) hlk
  exact ⟨_, h1, kk _ hT h2 h3 h4 h5⟩
end WTH
