/-! a method that returns or throws a new exception X -/
theorem wm_mono {p : Program} {l : Launch} {e : Env} {R : Room} {s : State} {m : MethodId} {args : Array Value} {below : List Frame} {meth : Method} {c : Code} {H : Heap} {locs : List Loc} {cells slots : Nat} {Q Q' : State → Prop} {g : JFrame} (h : ∀ t, Q t → Q' t) (k : W p l e R s m args below meth c H locs cells slots Q g) : W p l e R s m args below meth c H locs cells slots Q' g := by
  intro T hT X
  obtain ⟨t, a, b⟩ := k T hT X
  exact ⟨t, a, h t b⟩
def am_QT (S : am_Sy) (D : va_G) (ca : Nat → ClassId) (ρ : Nat → Nat) (A : Nat → Prop) (post : Option Value → am_S → Prop) (postT : am_S → Prop) (X : String) : Array Value → State → Outcome → State → Prop := fun a st o t =>
  (am_Q S D ca ρ A post a st o t ∧ ∃ L, FrameEnd st o t L 0 0 ∧ ∀ q ∈ L, A q.base) ∨
  ∃ (x : Addr) (σ : am_S) (L : List Loc) (ce : Cell), o = .threw x ∧ postT σ ∧ va_P D (am_cl S) (am_ws (am_sh S) ca ρ (am_nw S) σ) t.heap ∧ va_F A st t ∧ t.heap[x]? = some ce ∧ ce.vm = .none ∧ st.vm.findClass X = some ce.cls ∧ st.heap.size ≤ x ∧ st.WarmedH t.vm ∧ st.sameButNew ({ t with vm := st.vm } : State) L 1 6 ∧ ∀ q ∈ L, A q.base
def am_tF (S : am_Sy) (post : Option Value → am_S → Prop) (postT : am_S → Prop) (X : String) : am_Fn := fun below args s A D ca ρ t => ∃ o, t.status = .running ∧ Ended t below o ∧ am_QT S D ca ρ A post postT X args s o t
theorem am_A_tr {S : am_Sy} {M : am_Me} {f : am_F} {post : Option Value → am_S → Prop} {postT : am_S → Prop} {X : String} (k : am_A S M f (am_r S post)) : am_A S M f (am_tF S post postT X) := by
  intro p l e s m args below meth c H locs ls D ca ρ A hl9 hx hb hml hne hr hlk hown hts hX hA hR hL hlen
  exact wm_mono (fun t ⟨o, h1, h2, h3, L, h4, h5⟩ => ⟨o, h1, h2, Or.inl ⟨h3, L, h4, h5⟩⟩) (k p l e s m args below meth c H locs ls D ca ρ A hl9 hx hb hml hne hr hlk hown hts hX hA hR hL hlen)
def am_MtT (S : am_Sy) (M : am_Me) (as : List Value) (σ : am_S) (post : Option Value → am_S → Prop) (postT : am_S → Prop) (X : String) : Prop := ∀ (l : Launch), l.stackTraces = false → ∀ (D : va_G) (ca : Nat → ClassId) (ρ : Nat → Nat) (sz : Nat),
  MetFree l (am_nm M) (headSpec (am_wm S M) (am_rm M)) (am_Pc S D ca ρ as σ sz) (fun _ _ _ _ _ => True) (am_QT S D ca ρ (am_Ar S ρ sz) post postT X)
theorem am_MT_of {S : am_Sy} {M : am_Me} {as : List Value} {σ : am_S} {post : Option Value → am_S → Prop} {postT : am_S → Prop} {X : String} (hM : am_ok S M) (hn : (am_en as).length ≤ am_mx M) (k : am_A S M (0, am_ent as (am_mx M), [], σ) (am_tF S post postT X)) : am_MtT S M as σ post postT X := by
  intro l hl9 D ca ρ sz
  refine MetFree.of_bodyS (code := am_cc M) (maxLocals := am_mx M) (ret := am_rt M) hM.1 ?_ ?_
  · intro args s m h hn'
    obtain ⟨meth, c, h1, h2, h3, h4, h5, h6, -, -⟩ := Cond.code_spec hn' (atoms_spec (ws := am_wm S M) h _ List.mem_cons_self)
    exact ⟨meth, c, h1, h2, h3, h4, h5, h6⟩
  · intro p e s m args below meth c s₁ B hml hv _
    obtain ⟨rfl, hsz, hP, hD, hX⟩ := hv
    have hh0 : s₁.heap = s.heap := by rw [B.state]; rfl
    have hts := atoms_spec (ws := am_wm S M) B.pre
    have hown : s.vm.findClass (am_nm M).cls = some m.cls := findClass_of_methodNamed B.named
    rw [hM.2.1] at hown
    subst hsz
    have hl := lv_entry (as.map (am_v ρ)) (n := am_mx M) (by rw [am_en_len]; exact hn)
    have hL := am_ent_ok (ρ := ρ) hn hl
    have hW := k p l e s m _ below meth c s.heap [] _ D ca ρ (am_Ar S ρ s.heap.size) hl9 B.exec B.bytes hml (B.noHandlers (hts _ List.mem_cons_self)) B.returns B.notSynchronized hown (fun w hw => hts w (List.mem_cons_of_mem _ hw)) hX (fun q hq => Or.inr hq) ⟨hP, am_D_ar hD, va_S.rf⟩ hL (by simp [am_ent]; omega)
    have hg := lg_entry_eq m (as.map (am_v ρ)) (am_mx M)
    have hW : W p l e (am_rm M) s m (as.map (am_v ρ)).toArray below meth c s.heap [] 0 0 (am_tF S post postT X below (as.map (am_v ρ)).toArray s (am_Ar S ρ s.heap.size) D ca ρ) (entryFrame m (as.map (am_v ρ)).toArray (am_mx M)) := by rw [hg]; exact hW
    obtain ⟨t, a1, o, b1, b2, b3⟩ := hW s₁ hh0 (Stand.of_body B)
    exact ⟨t, o, a1, b1, b2, b3⟩
theorem am_isref {args : Array Value} {s : State} {C n d : String} {v : Value} {A : Nat → Prop} (hv : v.isRef = true) (h : va_Z C n d v A s s.heap) : (Cond.isRef (.static C n d)).before args s = true := by
  obtain ⟨cf, kf, fi, f, a, cell, h1, h2, h3, h4, h5, h6, h7, h8⟩ := h
  have he : (Term.static C n d).eval args s none [] s = some v := by
    simp [Term.eval, State.fieldNamed?, h1, h2, h4, h5, h6, h7]
  cases v <;> simp [Value.isRef] at hv <;> simp [Cond.before, Cond.holds, Cond.value, he]
def th_q (S : am_Sy) (a : Cond) : Prop := a ∈ am_tw S ∨ a ∈ am_nn S ∨ a = .isRef (.static Bundle.tN "UNASSIGNED_STACK" Bundle.steD) ∨ a = .isRef (.static Bundle.tN "SUPPRESSED_SENTINEL" Bundle.listD) ∨ a = .laysStatic Bundle.tN "UNASSIGNED_STACK" Bundle.steD ∨ a = .laysStatic Bundle.tN "SUPPRESSED_SENTINEL" Bundle.listD
def th_nm : List String := ["java/lang/RuntimeException", "java/lang/Exception"]
set_option maxHeartbeats 4000000 in
theorem am_throw {S : am_Sy} {M : am_Me} {pc jn ic : Nat} (hS : am_sys S) {L : List (Option Value)} {st : List Value} {σ : am_S} {post : Option Value → am_S → Prop} {postT : am_S → Prop} {X : String} {x0 x1 x2 x3 : am_X} (hM : am_ok S M)
    (h0 : (am_cd M)[pc]? = some (some (.new jn, 3, x0))) (h3 : (am_cd M)[pc + 3]? = some (some (.dup, 1, x1))) (h4 : (am_cd M)[pc + 3 + 1]? = some (some (.invokespecial ic, 3, x2))) (h7 : (am_cd M)[pc + 3 + 1 + 3]? = some (some (.athrow, 1, x3)))
    (hX : Bundle.fit X = true) (w1 : Cond.classLink (am_yl M).1 jn X ∈ am_tw S) (w2 : Cond.instantiable X 6 ∈ am_tw S) (w3 : Cond.initialized X ∈ am_tw S)
    (hat : ∀ a ∈ Bundle.ownAtoms0 (am_yl M).1 ic X th_nm, th_q S a)
    (hy1 : (Bundle.tN, "UNASSIGNED_STACK", Bundle.steD) ∈ am_ys S) (hy2 : (Bundle.tN, "SUPPRESSED_SENTINEL", Bundle.listD) ∈ am_ys S) (hst : st = [])
    (hr1 : 1 ≤ (am_rm M).cells) (hr2 : 6 ≤ (am_rm M).slots) (hr3 : 5 < (am_rm M).frames) (hr4 : 81 ≤ (am_rm M).locals) (hp : postT σ) : am_A S M (pc, L, st, σ) (am_tF S post postT X) := by
  subst hst
  intro p l e s m args below meth c H locs ls D ca ρ A hl9 hx hb hml hne hr hlk hown hts hX0 hA hR hL hlen
  obtain ⟨⟨u1, hu1, hz1⟩, hq1⟩ := hX0.2.2.2.2.1 _ hy1
  obtain ⟨⟨u2, hu2, hz2⟩, hq2⟩ := hX0.2.2.2.2.1 _ hy2
  have hout : ∀ (q : Nat) (y : ExceptionTableEntry), y ∈ c.exceptionTable.toList → covers y q = false := by
    intro q y hy
    have : c.exceptionTable.toList = [] := by simpa using hne
    rw [this] at hy
    cases hy
  have hw : ∀ a ∈ Bundle.ownAtoms0 (am_yl M).1 ic X th_nm, a.before args s = true := by
    intro a ha
    rcases hat a ha with h | h | rfl | rfl | rfl | rfl
    · exact hts a h
    · exact va_Nw.use (am_nest_tab (hS.2.2 a h)) (hX0.2.1 a h)
    · exact am_isref hu1 hz1
    · exact am_isref hu2 hz2
    · exact hq1.to
    · exact hq2.to
  refine W.newc hx hb hown (hts _ w1) (hts _ w2) (hts _ w3) rfl (hM.2.2.2.2.2 pc _ h0).1 (by omega) (by omega) (fun cC kC q1 q2 q3 q4 => ?_)
  refine W.eq (g2 := F0 m (pc + 3) ls [.ref H.size]) rfl ?_
  refine lv_dup hx hb (hM.2.2.2.2.2 (pc + 3) _ h3).1 rfl ?_
  refine wt_ctor0 (A := A) hx hb hl9 hown hX (by decide) hw hR.2.2.2.2 hz1 (cX := cC) (kX := kC) q1 q2 (by simp [freshCell]) hR.2.2.1 (hL.1.trans (hlen.trans hml.symm)) (hM.2.2.2.2.2 (pc + 3 + 1) _ h4).1 (by simpa [th_nm] using hr3) (by simp [th_nm, Value.category]; omega) (fun H1 ce locs1 e1 e2 e3 e4 e5 e6 => ?_)
  refine wt_athrow hx hb (hout _) (hM.2.2.2.2.2 (pc + 3 + 1 + 3) _ h7).1 hlk (fun t g1 g2 g3 g4 g5 => ?_)
  have hold : ∀ q : Nat, q < H.size → H1[q]? = H[q]? := by
    intro q hq
    rw [e2 q (Nat.ne_of_lt hq), Array.getElem?_push]
    simp [Nat.ne_of_lt hq]
  refine ⟨.threw H.size, g2, g3, Or.inr ⟨H.size, σ, locs1, ce, rfl, hp, ?_, ⟨?_, ?_⟩, by rw [g1]; exact e3, e5, by rw [e4]; exact q1, hR.2.2.1, g4, g5, ?_⟩⟩
  · rw [g1]
    exact hR.1.kept (fun k q hk => hold _ (hR.1 k q hk).lt)
  · rw [g1, e1]
    simp
    have := hR.2.2.1
    omega
  · intro q h1 h2
    rw [g1, hold q (Nat.lt_of_lt_of_le h1 hR.2.2.1)]
    exact hR.2.2.2.1 q h1 h2
  · intro y hy
    rcases e6 y hy with h | h
    · exact hR.2.2.2.2 y h
    · rw [h]
      exact hA _ hR.2.2.1
