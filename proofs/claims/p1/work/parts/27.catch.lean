/-! catching: the catch type may be unresolved yet -/
def wt_Finds (e : Env) (s : State) (f : JFrame) (a : Addr) (h : Handler) (s' : State) : Prop := ∀ (Q : Handler → Pre) (E : CtlPost) (d : Bool) (acts : List Action), wp (findHandler f a) Q E e d acts s ↔ Q h d acts s'
theorem wt_go_cold {e : Env} {s : State} {f : JFrame} {a : Addr} {E : CtlPost} {d : Bool} {acts : List Action} {Q : Handler → Pre} {x : ExceptionTableEntry} {t : List ExceptionTableEntry} {c : ClassId} {cell : Cell} {vm' : Vm} (hx : covers x f.pc = true) (h0 : x.catchType ≠ 0)
    (hg : (Jvm.resolveClass f.method.cls x.catchType).Gives e.toSetting s.vm (.ok c) vm') (hsz : vm'.classes.size ≤ s.vm.classes.size) (hcell : s.heap[a]? = some cell) (hobj : ∀ k, cell.vm ≠ .statics k)
    (hk : ∃ k, vm'.classes[cell.cls]? = some k) (hc : ∃ k, vm'.classes[c]? = some k) (hfit : vm'.assignable cell.cls c = true) :
    wp (findHandler.go f a (x :: t)) Q E e d acts s ↔ Q (.found x.handlerPc) d acts (s.setVm vm') := by
  simp only [covers] at hx
  obtain ⟨ha, ht⟩ := hg.op (op := VmOp.resolveClass f.method.cls x.catchType) rfl
  simp [findHandler.go, hx, h0, ha, ht, hsz, hcell, hobj, hk, hc, hfit, VmOp.dirties, VmOp.acts]
theorem wt_step_cold {e : Env} {s s' : State} {a : Addr} {f : JFrame} {r : List Frame} {pc : Nat} (hfind : wt_Finds e s f a (.found pc) s') :
    (stepThrowing e s a (.java f :: r)).Is (s'.setFrames (.java { f with pc := pc, stack := [.ref a] } :: r)) [] := by
  simp only [stepThrowing, searchFrame, vmDo]
  generalize hr : Sem.go _ e false [] s = res
  obtain ⟨as, rfl, ha⟩ := Sem.eq_ok_of hr (a := Handler.found pc) (s' := s') (acts' := []) (by simp [hfind _ _ _ _])
  exact ⟨rfl, ha⟩
theorem wt_caught {tb : Tables} {e : Env} {s target : State} {g : JFrame} {c : Code} {below : List Frame} {a : Addr} {vm' : Vm} (h : At s g.method c below) {pc : Nat} (hfind : wt_Finds e ((s.setTop g).pushFrame (.throwing a)) g a (.found pc) (((s.setTop g).pushFrame (.throwing a)).setVm vm'))
    (hrest : Steps tb e below ((s.setVm vm').setTop { g with pc := pc, stack := [.ref a] }) target) : Steps tb e below ((s.setTop g).pushFrame (.throwing a)) target := by
  obtain ⟨hgo, hw⟩ := h.throwing a
  refine Steps.head hgo hw ?_
  rw [stepThread_throwing (frames_entered h.top _), (wt_step_cold (s := (s.setTop g).pushFrame (.throwing a)) hfind).1]
  obtain ⟨g₀, hg⟩ := Option.isSome_iff_exists.mp h.top
  obtain ⟨r, hr⟩ := State.topJava?_eq_some.mp hg
  have hr2 : (s.setVm vm').frames = .java g₀ :: r := hr
  rw [State.setTop_of_frames _ hr2] at hrest
  have e1 : ∀ fs : List Frame, (((s.setTop g).pushFrame (.throwing a)).setVm vm').setFrames fs = (s.setVm vm').setFrames fs := by
    intro fs
    have e2 : (((s.setTop g).pushFrame (.throwing a)).setVm vm').setFrames fs = (((s.setTop g).pushFrame (.throwing a)).setFrames fs).setVm vm' := rfl
    rw [e2, State.pushFrame, State.setFrames_setFrames, State.setTop_of_frames _ hr, State.setFrames_setFrames]
    rfl
  rw [e1, hr]
  exact hrest
theorem wt_catch {p : Program} {l : Launch} {e : Env} {R : Room} {s : State} {m : MethodId} {args : Array Value} {below : List Frame} {meth : Method} {c : Code} {T : State} {locs : List Loc} {cells slots : Nat} (X : Stand p l e R s m args below meth c T locs cells slots) {a : Addr} {g : JFrame} (hg : g.method = m) {own C : String} {idx hpc : Nat}
    (hown : s.vm.findClass own = some m.cls) (hcl : (Cond.classLink own idx C).before args s = true) (hca : (Cond.castable C C).before args s = true) {x : ExceptionTableEntry} (htab : c.exceptionTable.toList = [x]) (hx : covers x g.pc = true) (hct : x.catchType = idx) (h0 : idx ≠ 0) (hh : x.handlerPc = hpc)
    {cell : Cell} (hcell : T.heap[a]? = some cell) (hvm : cell.vm = .none) (hcls : s.vm.findClass C = some cell.cls) :
    ∃ vm', Stand p l e R s m args below meth c (T.setVm vm') locs cells slots ∧ ∀ target, Steps p.tables e below ((T.setVm vm').setTop { g with pc := hpc, stack := [.ref a] }) target → Steps p.tables e below ((T.setTop g).pushFrame (.throwing a)) target := by
  subst hg
  have hpl : e.platform.magicAccessors = ({} : Platform).magicAccessors := by rw [X.admits.platform]
  obtain ⟨cC, hfc, hlk⟩ := Cond.classLink_spec hown hcl e.platform hpl
  have ec : cC = cell.cls := Option.some.inj (hfc.symm.trans hcls)
  subst ec
  obtain ⟨c3, c4, hc3, hc4, hasg⟩ := Cond.castable_spec hca
  have e3 : c3 = cell.cls := Option.some.inj (hc3.symm.trans hcls)
  subst e3
  have e4 : c4 = cell.cls := Option.some.inj (hc4.symm.trans hcls)
  subst e4
  obtain ⟨hg1, hwarm, hready⟩ := State.classEntry (e := e) X.warmed hlk
  have hsz : (T.vm.noted g.method.cls idx (.cls cell.cls)).classes.size ≤ T.vm.classes.size := by rw [Vm.size_noted]; exact Nat.le_refl _
  generalize T.vm.noted g.method.cls idx (.cls cell.cls) = vm1 at hg1 hwarm hready hsz
  have hal := hwarm.alike
  obtain ⟨kC, hkC⟩ := Vm.classAt_of_findClass hcls
  obtain ⟨k1, hk1, -⟩ := hal.2.2 _ _ hkC
  have hasg1 : vm1.assignable cell.cls cell.cls = true := by rw [hal.assignable]; exact hasg
  refine ⟨vm1, X.noted hwarm, fun target hrest => ?_⟩
  refine wt_caught X.here (pc := hpc) (vm' := vm1) ?_ hrest
  intro Q E d acts
  have hm : ((T.setTop g).pushFrame (.throwing a)).vm.method? g.method = some meth := by
    rw [Stand.throwing_vm]
    exact X.method'
  rw [W.findHandler_eq hm X.code, htab, ← hh]
  subst hct
  exact wt_go_cold hx h0 (by rw [Stand.throwing_vm]; exact hg1) (by rw [Stand.throwing_vm]; exact hsz) (cell := cell) (by rw [Stand.throwing_heap]; exact hcell) (fun k => by rw [hvm]; exact fun h => by cases h) ⟨k1, hk1⟩ ⟨k1, hk1⟩ hasg1
