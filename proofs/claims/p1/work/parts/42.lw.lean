/-! the law: the two systems and the law's own array, side by side -/
theorem lw_lt {D : va_G} {cl : List vw_C} {ws : va_W} {H : Heap} (hP : va_P D cl ws H) {k : Nat} {q : Nat × va_E} (hq : ws[k]? = some q) : q.1 < H.size := by
  have h := hP k q hq
  obtain ⟨a, e⟩ := q
  cases e with
  | inl x => exact (Array.getElem?_eq_some_iff.mp h).1
  | inr o =>
    obtain ⟨r, h1, cell, q1, -⟩ := h
    exact (Array.getElem?_eq_some_iff.mp q1).1
theorem lw_keepR {S : am_Sy} {D : va_G} {ca : Nat → ClassId} {ρ : Nat → Nat} {A : Nat → Prop} {s : State} {σ : am_S} {H H1 : Heap} {locs locs1 : List Loc} (h : am_R (am_cl S) (am_sh S) (am_nw S) D ca ρ A s σ H locs) (hS1 : va_S A s.heap H1 locs1) (hq : ∀ k, k < am_nw S → ρ k < H.size → H1[ρ k]? = H[ρ k]?) : am_R (am_cl S) (am_sh S) (am_nw S) D ca ρ A s σ H1 locs1 := by
  refine ⟨h.1.kept (fun k q hk => ?_), h.2.1, hS1⟩
  have hlt := lw_lt h.1 hk
  have hk1 : k < am_nw S := by
    have := (List.getElem?_eq_some_iff.mp hk).1
    rwa [am_ws_len] at this
  rw [am_ws_at hk1] at hk
  cases hk
  exact hq k hk1 hlt
def lw_oc (ca : Nat → ClassId) (f : Nat → Int64) : va_E := .inl (ca 1, 1, .inr (.inl f))
def lw_I (D Dm : va_G) (ca : Nat → ClassId) (ρx ρm : Nat → Nat) (ao : Nat) (A : Nat → Prop) (s : State) (σx σm : am_S) (f : Nat → Int64) (H : Heap) (locs : List Loc) : Prop :=
  am_R (am_cl S_c) (am_sh S_c) (am_nw S_c) D ca ρx A s σx H locs ∧ am_R (am_cl S_m) (am_sh S_m) (am_nw S_m) Dm ca ρm A s σm H locs ∧ H[ao]? = some (vp_cell (ca 1) (1, .inr (.inl f))) ∧
  (∀ k, k < am_nw S_c → ∀ j, j < am_nw S_m → ρx k ≠ ρm j) ∧ (∀ k, k < am_nw S_c → ρx k ≠ ao) ∧ (∀ j, j < am_nw S_m → ρm j ≠ ao) ∧ A ao
section LW
variable {D Dm : va_G} {ca : Nat → ClassId} {ρx ρm : Nat → Nat} {ao : Nat} {A : Nat → Prop} {s : State} {σx σm : am_S} {f : Nat → Int64} {H : Heap} {locs : List Loc}
theorem lw_I_x {σx' : am_S} {H1 : Heap} {locs1 : List Loc} (h : lw_I D Dm ca ρx ρm ao A s σx σm f H locs) (hR : am_R (am_cl S_c) (am_sh S_c) (am_nw S_c) D ca ρx A s σx' H1 locs1) (hq : ∀ q : Nat, q < H.size → ¬ am_Ar S_c ρx H.size q → H1[q]? = H[q]?) : lw_I D Dm ca ρx ρm ao A s σx' σm f H1 locs1 := by
  obtain ⟨h1, h2, h3, h4, h5, h6, h7⟩ := h
  refine ⟨hR, lw_keepR h2 hR.2.2 (fun j hj hl => hq _ hl ?_), ?_, h4, h5, h6, h7⟩
  · rintro (⟨k, hk, e⟩ | e)
    · exact h4 k hk j hj e.symm
    · omega
  · have hl := (Array.getElem?_eq_some_iff.mp h3).1
    rw [hq ao hl (by
      rintro (⟨k, hk, e⟩ | e)
      · exact h5 k hk e.symm
      · omega)]
    exact h3
theorem lw_I_m {σm' : am_S} {H1 : Heap} {locs1 : List Loc} (h : lw_I D Dm ca ρx ρm ao A s σx σm f H locs) (hR : am_R (am_cl S_m) (am_sh S_m) (am_nw S_m) Dm ca ρm A s σm' H1 locs1) (hq : ∀ q : Nat, q < H.size → ¬ am_Ar S_m ρm H.size q → H1[q]? = H[q]?) : lw_I D Dm ca ρx ρm ao A s σx σm' f H1 locs1 := by
  obtain ⟨h1, h2, h3, h4, h5, h6, h7⟩ := h
  refine ⟨lw_keepR h1 hR.2.2 (fun k hk hl => hq _ hl ?_), hR, ?_, h4, h5, h6, h7⟩
  · rintro (⟨j, hj, e⟩ | e)
    · exact h4 k hk j hj e
    · omega
  · have hl := (Array.getElem?_eq_some_iff.mp h3).1
    rw [hq ao hl (by
      rintro (⟨j, hj, e⟩ | e)
      · exact h6 j hj e.symm
      · omega)]
    exact h3
end LW
/-! call sites of the law -/
def lw_V (S : am_Sy) (M2 : am_Me) (idx n : Nat) (R : Room) : Prop := am_sys S ∧ am_tw S = tw_ ∧ Cond.methodLink "FrameFinderLaw" idx (am_nm M2) ∈ tw_ ∧ Cond.instanceMethod (am_nm M2) ∈ tw_ ∧ Cond.selects (am_nm M2).cls (am_nm M2) (am_nm M2) ∈ tw_ ∧ Cond.code (am_nm M2) (am_cc M2) (am_mx M2) (am_rt M2) ∈ tw_ ∧ Cond.initialized (am_nm M2).cls ∈ tw_ ∧
  ((am_nm M2).cls ≠ "java/lang/invoke/MethodHandle" ∧ (am_nm M2).cls ≠ "java/lang/invoke/VarHandle") ∧ (parseMethodDescriptor (am_nm M2).desc).map (fun d => d.parameters.length) = some n ∧ (am_rm M2).frames + 1 ≤ R.frames ∧ 8 + (am_mx M2 + 11) + (am_rm M2).locals ≤ R.locals ∧ 0 < am_nw S ∧ ∃ (ks : List am_K) (q : vw_C), am_sh S 0 = .inr (0, ks) ∧ (am_cl S)[0]? = some q ∧ q.1 = (am_nm M2).cls
section LC
variable {p : Program} {l : Launch} {e : Env} {R : Room} {s : State} {m : MethodId} {args : Array Value} {below : List Frame} {meth : Method} {c : Code} {H : Heap} {locs : List Loc} {cells slots : Nat} {Q : State → Prop} {cc : ByteArray} {pc idx : Nat} {ls : Array Slot} {rest : List Value}
  {D Dm : va_G} {ca : Nat → ClassId} {ρx ρm : Nat → Nat} {ao : Nat} {A : Nat → Prop} {σx σm : am_S} {f : Nat → Int64}
/-- what holds through the law's whole run -/
def lw_E (D Dm : va_G) (ca : Nat → ClassId) (ρx ρm : Nat → Nat) (A : Nat → Prop) (cc : ByteArray) (p : Program) (l : Launch) (s : State) (m : MethodId) (args : Array Value) (c : Code) : Prop :=
  p.tables.exec = Jvm.exec ∧ c.code = cc ∧ c.maxLocals = 7 ∧ s.vm.findClass "FrameFinderLaw" = some m.cls ∧ (∀ w ∈ tw_, w.before args s = true) ∧ l.stackTraces = false ∧ am_X0 S_c D ca ρx A s s.heap ∧ am_X0 S_m Dm ca ρm A s s.heap ∧ ∀ q, s.heap.size ≤ q → A q
theorem lw_cx (E : lw_E D Dm ca ρx ρm A cc p l s m args c) {M2 : am_Me} {n : Nat} (v : lw_V S_c M2 idx n R) (hz : (am_rm M2).cells = 0 ∧ (am_rm M2).slots = 0) {as : List Value} (hn : as.length = n) {post : Option Value → am_S → Prop} (hM : am_Mt S_c M2 (.ref 0 :: as) σx post) (I : lw_I D Dm ca ρx ρm ao A s σx σm f H locs) (hce : cells ≤ R.cells) (hsl : slots ≤ R.slots) (hsz : ls.size = 7) (hw8 : (rest.map Value.category).sum ≤ 8) (hd : decode cc pc = .ok (.invokevirtual idx, 3))
    (kk : ∀ (r : Option Value) (σ' : am_S) (H1 : Heap) (locs1 : List Loc), post r σ' → lw_I D Dm ca ρx ρm ao A s σ' σm f H1 locs1 → W p l e R s m args below meth c H1 locs1 cells slots Q (F0 m (pc + 3) ls ((r.map (am_v ρx)).toList ++ rest))) : W p l e R s m args below meth c H locs cells slots Q (F0 m pc ls ((as.map (am_v ρx)).reverse ++ .ref (ρx 0) :: rest)) := by
  obtain ⟨hx, hb, hml, hown, htw, hl9, hX, -, hA⟩ := E
  obtain ⟨v1, v2, v3, v4, v5, v6, v7, v8, v9, v10, v11, v12, ks, q, v13, v14, v15⟩ := v
  subst hn
  exact wt_callN (n := 0) v1 hl9 hM hx hb hml hown (by rw [v2]; exact htw) (htw _ v3) (htw _ v4) (htw _ v5) (by rw [v2]; exact v6) (htw _ v7) v8 v9 v10 v11 hz.1 hz.2 hce hsl hsz hw8 hX hA I.1 v12 v13 v14 v15 hd (fun r σ' H1 locs1 h1 h2 _ h4 => kk r σ' H1 locs1 h1 (lw_I_x I h2 h4))
theorem lw_cm (E : lw_E D Dm ca ρx ρm A cc p l s m args c) {M2 : am_Me} {n : Nat} (v : lw_V S_m M2 idx n R) (hz : (am_rm M2).cells = 0 ∧ (am_rm M2).slots = 0) {as : List Value} (hn : as.length = n) {post : Option Value → am_S → Prop} (hM : am_Mt S_m M2 (.ref 0 :: as) σm post) (I : lw_I D Dm ca ρx ρm ao A s σx σm f H locs) (hce : cells ≤ R.cells) (hsl : slots ≤ R.slots) (hsz : ls.size = 7) (hw8 : (rest.map Value.category).sum ≤ 8) (hd : decode cc pc = .ok (.invokevirtual idx, 3))
    (kk : ∀ (r : Option Value) (σ' : am_S) (H1 : Heap) (locs1 : List Loc), post r σ' → lw_I D Dm ca ρx ρm ao A s σx σ' f H1 locs1 → W p l e R s m args below meth c H1 locs1 cells slots Q (F0 m (pc + 3) ls ((r.map (am_v ρm)).toList ++ rest))) : W p l e R s m args below meth c H locs cells slots Q (F0 m pc ls ((as.map (am_v ρm)).reverse ++ .ref (ρm 0) :: rest)) := by
  obtain ⟨hx, hb, hml, hown, htw, hl9, -, hX, hA⟩ := E
  obtain ⟨v1, v2, v3, v4, v5, v6, v7, v8, v9, v10, v11, v12, ks, q, v13, v14, v15⟩ := v
  subst hn
  exact wt_callN (n := 0) v1 hl9 hM hx hb hml hown (by rw [v2]; exact htw) (htw _ v3) (htw _ v4) (htw _ v5) (by rw [v2]; exact v6) (htw _ v7) v8 v9 v10 v11 hz.1 hz.2 hce hsl hsz hw8 hX hA I.2.1 v12 v13 v14 v15 hd (fun r σ' H1 locs1 h1 h2 _ h4 => kk r σ' H1 locs1 h1 (lw_I_m I h2 h4))
end LC
/-! a static call of a method with handlers -/
theorem wt_runSW {p : Program} {l : Launch} {e : Env} {R : Room} {s : State} {m : MethodId} {args : Array Value} {below : List Frame} {meth : Method} {c : Code} {H : Heap} {locs : List Loc} {cells slots : Nat} {y : MethodName} {bytes cc : ByteArray} {maxL nL mc ms n index : Nat} {ret : Option FieldType} {hh : List (Nat × Nat × Nat × Nat)} {ws : List Cond} {rm : Room} {Pc : Array Value → State → Prop} {Qc : Array Value → State → Outcome → State → Prop} {free : Addr → Prop} {Ts : List Cond} {own : String} {As rest : List Value} {g : JFrame}
    (S : CallFix p m c cc nL s args Ts own) (hM : Met l y ws rm Pc Qc mc ms free) (hrc : rm.cells = mc) (hrs : rm.slots = ms) (hfr : rm.frames + 1 ≤ R.frames) (hlo : 8 + (maxL + 11) + rm.locals ≤ R.locals) (hws : ∀ w ∈ ws, ∀ (a' : Array Value) (U : State), s.WarmedH U.vm → w.before a' U = true) (hcw : Cond.codeWith y bytes maxL ret hh ∈ ws) (hcode : (Cond.codeWith y bytes maxL ret hh).before args s = true) (hini : (Cond.initialized y.cls).before args s = true)
    (hy : y.cls ≠ "java/lang/invoke/MethodHandle" ∧ y.cls ≠ "java/lang/invoke/VarHandle") (hlen : (parseMethodDescriptor y.desc).map (fun d => d.parameters.length) = some n) (hl : (Cond.methodLink own index y).before args s = true) (hst : (Cond.static y).before args s = true) (hp : PreS s H Pc As)
    (hg : g.method = m) (hn : As.length = n) (hsize : g.locals.size = nL) (hstack : g.stack = As.reverse ++ rest) (hW : 2 * g.monitorRoom + (rest.map fun v => v.category).sum ≤ 8) (hdg : decode cc g.pc = .ok (.invokestatic index, 3)) (hf : cells + mc ≤ R.cells ∧ slots + ms ≤ R.slots) :
    va_Run p l e R s m args below meth c H locs cells slots mc ms g rest (Qc As.toArray) free := by
  have hK : Back l R p e below s args y 3 8 (PreOf R mc ms Pc) (PostOf Qc mc ms free) := va_backW hM hp.1 hrc hrs hfr hlo hws hcw (fun a' U hW => word_at hW (Or.inl (by first | rfl | simp [Cond.onTables, Cond.keeps, Cond.steady])) hini)
  obtain ⟨hx, hb, hml, ho, -⟩ := S
  intro T hT X
  obtain ⟨mk, methM, cM, hnamed, hmethM, -, -, -, -, -, -, hsigM⟩ := Cond.codeWith_spec hcode
  have hstatic : methM.isStatic = true := Cond.static_spec hnamed hmethM hst
  obtain ⟨kP, hkP, -⟩ := className_of_methodNamed hnamed
  have hinitP : kP.init = .initialized := Cond.initialized_spec (findClass_of_methodNamed hnamed) hkP hini
  have hdg' : decode c.code g.pc = .ok (.invokestatic index, 3) := by rw [hb]; exact hdg
  have hl2 : As.length = methM.sig.parameters.length := by
    rw [hsigM] at hlen
    rw [hn]
    exact (Option.some.inj hlen).symm
  obtain ⟨vm₁, X₁, hstep₁⟩ := X.invokestatic hx ho hl hnamed hmethM hstatic hkP hinitP hy (g := g) hg (argsL := As) (rest := rest) hl2 hstack hdg'
  obtain ⟨v, ⟨U', l2, c2, s2⟩, X', ⟨g', mk', t, L, e1, e2, hq, h1, hL, h2, h3⟩, hsteps⟩ := hK m meth c ⟨T.setVm vm₁, locs, cells, slots⟩ { g with stack := rest } (.invokestatic index) mk As.toArray X₁ hg (hsize.trans hml.symm) hdg' hW (X₁.named hnamed) ⟨hf.1, hf.2, hp.2 (T.setVm vm₁) hT X₁.warmed⟩
  dsimp only [Pt.U, Pt.locs, Pt.cells, Pt.slots] at X' e1 e2 h1 h2 h3 hsteps
  subst h1; subst h2; subst h3
  exact ⟨v, (T.setVm vm₁).calling g' mk' As.toArray, t, U', L, hT, X', hL, e1, e2, hq, fun target h => hstep₁ _ fun acts => by rw [doInvoke_state]; exact hsteps.trans h⟩
