/-! a call of a method that returns or throws: both ways -/
set_option maxHeartbeats 4000000 in
theorem wt_callT {p : Program} {l : Launch} {e : Env} {R : Room} {s : State} {m : MethodId} {args : Array Value} {below : List Frame} {meth : Method} {c : Code} {H : Heap} {locs : List Loc} {cells slots : Nat} {Q : State → Prop} {cc : ByteArray} {pc idx k ci n : Nat} {ls : Array Slot} {rest : List Value} {own : String}
    {S : am_Sy} {M2 : am_Me} {as : List Value} {σ : am_S} {post : Option Value → am_S → Prop} {postT : am_S → Prop} {X : String} {D : va_G} {ca : Nat → ClassId} {ρ : Nat → Nat} {A : Nat → Prop} {ks : List am_K} {q : vw_C}
    (hS : am_sys S) (hl9 : l.stackTraces = false) (hM2 : am_MtT S M2 (.ref k :: as) σ post postT X) (hx : p.tables.exec = Jvm.exec) (hb : c.code = cc) (hown : s.vm.findClass own = some m.cls) (hts : ∀ w ∈ am_tw S, w.before args s = true)
    (hlink : (Cond.methodLink own idx (am_nm M2)).before args s = true) (hinst : (Cond.instanceMethod (am_nm M2)).before args s = true) (hsel : (Cond.selects (am_nm M2).cls (am_nm M2) (am_nm M2)).before args s = true) (hcode : Cond.code (am_nm M2) (am_cc M2) (am_mx M2) (am_rt M2) ∈ am_tw S) (hini : (Cond.initialized (am_nm M2).cls).before args s = true)
    (hy : (am_nm M2).cls ≠ "java/lang/invoke/MethodHandle" ∧ (am_nm M2).cls ≠ "java/lang/invoke/VarHandle") (hn : (parseMethodDescriptor (am_nm M2).desc).map (fun d => d.parameters.length) = some as.length)
    (hfr : (am_rm M2).frames + 1 ≤ R.frames) (hlo : 8 + (am_mx M2 + 11) + (am_rm M2).locals ≤ R.locals) (hce : cells + (am_rm M2).cells ≤ R.cells) (hsl : slots + (am_rm M2).slots ≤ R.slots) (hsz : ls.size = c.maxLocals) (hw8 : (rest.map Value.category).sum ≤ 8)
    (hX0 : am_X0 S D ca ρ A s s.heap) (hA : ∀ q, s.heap.size ≤ q → A q) (hR : am_R (am_cl S) (am_sh S) (am_nw S) D ca ρ A s σ H locs) (hk : k < am_nw S) (hsh : am_sh S k = .inr (ci, ks)) (hci : (am_cl S)[ci]? = some q) (hqc : q.1 = (am_nm M2).cls) (hd : decode cc pc = .ok (.invokevirtual idx, 3))
    (kR : ∀ (r : Option Value) (σ' : am_S) (H1 : Heap) (locs1 : List Loc), post r σ' → am_R (am_cl S) (am_sh S) (am_nw S) D ca ρ A s σ' H1 locs1 → H.size ≤ H1.size → (∀ q : Nat, q < H.size → ¬ am_Ar S ρ H.size q → H1[q]? = H[q]?) → W p l e R s m args below meth c H1 locs1 cells slots Q (F0 m (pc + 3) ls ((r.map (am_v ρ)).toList ++ rest)))
    (kT : ∀ (x : Addr) (σ' : am_S) (H1 : Heap) (locs1 : List Loc) (ce : Cell), postT σ' → am_R (am_cl S) (am_sh S) (am_nw S) D ca ρ A s σ' H1 locs1 → H1[x]? = some ce → ce.vm = .none → s.vm.findClass X = some ce.cls → H.size ≤ H1.size → (∀ q : Nat, q < H.size → ¬ am_Ar S ρ H.size q → H1[q]? = H[q]?) → 
      ∀ T : State, T.heap = H1 → Stand p l e R s m args below meth c T locs1 (cells + 1) (slots + 6) → ∃ t, Steps p.tables e below ((T.setTop (F0 m pc ls rest)).pushFrame (.throwing x)) t ∧ Q t) :
    W p l e R s m args below meth c H locs cells slots Q (F0 m pc ls ((as.map (am_v ρ)).reverse ++ .ref (ρ k) :: rest)) := by
  intro T hT St
  have he := am_ws_at (sh := am_sh S) (ca := ca) (ρ := ρ) (σ := σ) hk
  rw [am_cell_o hsh] at he
  have hrec := va_recv hX0.1 hR.1 hci he
  rw [hqc] at hrec
  obtain ⟨cB, hcB, hoB, hclB⟩ := hrec
  have hcodeB := hts _ hcode
  obtain ⟨mk, methM, hnamed, hmethM, hstM, habM⟩ := Cond.instanceMethod_spec hinst
  obtain ⟨methM', cM, hmethM', hcM, -, hlM, -, -, -, hsigM⟩ := Cond.code_spec hnamed hcodeB
  have eM : methM' = methM := Option.some.inj (hmethM'.symm.trans hmethM)
  subst eM
  obtain ⟨c2, r2, m2, q1, q2, q3, q4, kP, hkP, hkPi⟩ := Cond.selects_spec hsel
  have ec : c2 = cB.cls := Option.some.inj (q1.symm.trans hclB)
  subst ec
  have er : r2 = mk := Option.some.inj (q2.symm.trans (State.methodFound?_of_named hnamed hy))
  subst er
  have em : m2 = r2 := Option.some.inj (q3.symm.trans hnamed)
  subst em
  have hselP : selectMethod e.platform s.vm cB.cls m2 = .method m2 := by rw [Launch.admits_selectMethod St.admits]; exact q4
  have hlen : (as.map (am_v ρ)).length = methM'.sig.parameters.length := by
    rw [hsigM] at hn
    simpa using (Option.some.inj hn).symm
  have hcc : decode c.code pc = .ok (.invokevirtual idx, 3) := by rw [hb]; exact hd
  obtain ⟨vm1, St1, step1⟩ := St.invokevirtual hx hown hlink hnamed hmethM hstM hkP hkPi hy (a := ρ k) (cell := cB) (by rw [hT]; exact hcB) (fun z h => by rw [h] at hoB; cases hoB) hselP hmethM habM hkP hkPi (g := F0 m pc ls ((as.map (am_v ρ)).reverse ++ .ref (ρ k) :: rest)) rfl (argsL := as.map (am_v ρ)) (rest := rest) hlen rfl hcc
  have hn1 := St1.named hnamed
  obtain ⟨kY, hkY, -⟩ := className_of_methodNamed hn1
  have hW1 := St1.warmed
  have hi1 : (Cond.initialized (am_nm M2).cls).before (Value.ref (ρ k) :: as.map (am_v ρ)).toArray (T.setVm vm1) = true := word_at hW1 (Or.inl (by first | rfl | simp [Cond.onTables, Cond.keeps, Cond.steady])) hini
  have hinitY : kY.init = .initialized := Cond.initialized_spec (findClass_of_methodNamed hn1) hkY hi1
  have hc1 : (Cond.code (am_nm M2) (am_cc M2) (am_mx M2) (am_rt M2)).before (Value.ref (ρ k) :: as.map (am_v ρ)).toArray (T.setVm vm1) = true := am_pay hS hts hcode _ List.mem_cons_self _ _ hW1
  obtain ⟨methY, cY, hmY, hcY, -, hlY, -⟩ := Cond.code_spec hn1 hc1
  have hAt : At (T.setVm vm1) (F0 m pc ls rest).method c below := St1.here
  have hroom : 2 * (F0 m pc ls rest).monitorRoom + ((F0 m pc ls rest).stack.map fun v => v.category).sum ≤ 8 := lv_room hw8
  have happ : (headSpec (am_wm S M2) (am_rm M2)).appliesLoose (am_nm M2) e.platform ((T.setVm vm1).calling (F0 m pc ls rest) m2 (Value.ref (ρ k) :: as.map (am_v ρ)).toArray) = true :=
    Spec.appliesLoose_calling (g := F0 m pc ls rest) hAt hcc hn1 hkY hinitY (St1.room_calling (g := F0 m pc ls rest) (R' := am_rm M2) hsz hmY hcY hfr (by rw [hlY]; omega) hce hsl) (atoms_intro fun w hw => am_pay hS hts hcode w hw _ _ hW1)
  obtain ⟨mid, hmid⟩ := hAt.above
  have hfrm : ((T.setVm vm1).setTop (F0 m pc ls rest)).frames = (.java (F0 m pc ls rest) :: mid) ++ below := by rw [State.frames_setTop' _ hAt.top, hmid]; rfl
  have hAr := am_Ar_in (S := S) hA hR.2.2.1 hR.2.1
  have hpre : am_Pc S D ca ρ (.ref k :: as) σ H.size (Value.ref (ρ k) :: as.map (am_v ρ)).toArray ((T.setVm vm1).calling (F0 m pc ls rest) m2 (Value.ref (ρ k) :: as.map (am_v ρ)).toArray) := by
    refine am_Pc_blind hS _ _ _ _ ⟨rfl, ?_, ?_, hR.2.1.weaken (fun _ _ _ _ => trivial), ?_⟩
    · show T.heap.size = H.size
      rw [hT]
    · show va_P D (am_cl S) _ T.heap
      rw [hT]
      exact hR.1
    · show am_X0 S D ca ρ _ (T.setVm vm1) T.heap
      rw [hT]
      exact am_X0_warm hS hW1 (am_X0_heap hR.2.2.2.1 hAr hX0)
  obtain ⟨o, s2, hsteps, -, hend, hq⟩ := Steps.callFree (hM2 l hl9 D ca ρ H.size) p St.admits St.cas St.clock (acts := []) hfrm happ hpre trivial
  rw [State.frames_setTop' _ hAt.top] at hend
  have htail : (T.setVm vm1).frames.tail = below := St1.tail
  rw [htail] at hend
  have hgo : ∀ target, Steps p.tables e below s2 target → Steps p.tables e below (T.setTop (F0 m pc ls ((as.map (am_v ρ)).reverse ++ .ref (ρ k) :: rest))) target := fun target h => step1 _ fun acts => by
    rw [doInvoke_state]
    exact hsteps.trans h
  have hstart : ((T.setVm vm1).calling (F0 m pc ls rest) m2 (Value.ref (ρ k) :: as.map (am_v ρ)).toArray).heap = H := hT
  have hRof : ∀ (σ' : am_S) (T' : State) (L : List Loc), T'.heap = s2.heap → va_P D (am_cl S) (am_ws (am_sh S) ca ρ (am_nw S) σ') s2.heap → va_F (am_Ar S ρ H.size) ((T.setVm vm1).calling (F0 m pc ls rest) m2 (Value.ref (ρ k) :: as.map (am_v ρ)).toArray) s2 → (∀ q ∈ L, am_Ar S ρ H.size q.base) → am_R (am_cl S) (am_sh S) (am_nw S) D ca ρ A s σ' T'.heap (locs ++ L) := by
    intro σ' T' L e1 hP2 hF hL
    obtain ⟨z1, z2⟩ := hF
    rw [hstart] at z1 z2
    refine ⟨by rw [e1]; exact hP2, am_D_mv hR.2.1, by rw [e1]; exact Nat.le_trans hR.2.2.1 z1, fun q h1 h2 => ?_, fun q hq => ?_⟩
    · rw [e1, z2 q (Nat.lt_of_lt_of_le h1 hR.2.2.1) (fun z => h2 (hAr q z))]
      exact hR.2.2.2.1 q h1 h2
    · rcases List.mem_append.mp hq with h | h
      · exact hR.2.2.2.2 q h
      · exact hAr _ (hL q h)
  have hfrm2 : ∀ (T' : State), T'.heap = s2.heap → va_F (am_Ar S ρ H.size) ((T.setVm vm1).calling (F0 m pc ls rest) m2 (Value.ref (ρ k) :: as.map (am_v ρ)).toArray) s2 → H.size ≤ T'.heap.size ∧ ∀ q : Nat, q < H.size → ¬ am_Ar S ρ H.size q → T'.heap[q]? = H[q]? := by
    intro T' e1 hF
    obtain ⟨z1, z2⟩ := hF
    rw [hstart] at z1 z2
    exact ⟨by rw [e1]; exact z1, fun q h1 h2 => by rw [e1]; exact z2 q h1 h2⟩
  have hheap : ∀ {T' : State} {g2 : JFrame}, s2 = T'.setTop g2 → T'.heap = s2.heap := fun {T'} {g2} e9 => by rw [e9]; rfl
  have hheap2 : ∀ {T' : State} {g2 : JFrame} {x : Addr}, s2 = (T'.setTop g2).pushFrame (.throwing x) → T'.heap = s2.heap := fun {T'} {g2} {x} e9 => by rw [e9]; exact (Stand.throwing_heap T' g2 x).symm
  rcases hq with ⟨⟨⟨r, σ', p1, p2, p3⟩, p4⟩, L, hFE, hL⟩ | ⟨x, σ', L, ce, p1, p2, p3, p4, p5, p6, p7, p8, p9, p10, p11⟩
  · subst p1
    obtain ⟨-, hWe, hsame⟩ := hFE
    obtain ⟨T', St', -, -, ht⟩ := St1.outOf (g := F0 m pc ls rest) rfl hcc hend hWe hsame
    have e1 := hheap ht
    obtain ⟨t, a1, b1⟩ := kR r σ' T'.heap (locs ++ L) p2 (hRof σ' T' L e1 p3 p4 hL) (hfrm2 T' e1 p4).1 (hfrm2 T' e1 p4).2 T' rfl St'
    refine ⟨t, hgo t ?_, b1⟩
    rw [ht]
    exact a1
  · subst p1
    obtain ⟨T', St', -, -, ht⟩ := St1.outOfThrown (g := F0 m pc ls rest) rfl hend p9 p10
    have e1 := hheap2 ht
    obtain ⟨t, a1, b1⟩ := kT x σ' T'.heap (locs ++ L) ce p2 (hRof σ' T' L e1 p3 p4 p11) (by rw [e1]; exact p5) p6 (by
      have hal : s.vm.Alike (T.setVm vm1).vm := hW1.alike
      rw [← hal.findClass]
      exact p7) (hfrm2 T' e1 p4).1 (hfrm2 T' e1 p4).2 T' rfl St'
    refine ⟨t, hgo t ?_, b1⟩
    rw [ht]
    exact a1
/-! a call of a method with a contract, from a method that is walked by the kit's rows -/
set_option maxHeartbeats 4000000 in
theorem wt_callN {p : Program} {l : Launch} {e : Env} {R : Room} {s : State} {m : MethodId} {args : Array Value} {below : List Frame} {meth : Method} {c : Code} {H : Heap} {locs : List Loc} {cells slots : Nat} {Q : State → Prop} {cc : ByteArray} {pc idx k ci n nL : Nat} {ls : Array Slot} {rest : List Value} {own : String}
    {S : am_Sy} {M2 : am_Me} {as : List Value} {σ : am_S} {post : Option Value → am_S → Prop} {D : va_G} {ca : Nat → ClassId} {ρ : Nat → Nat} {A : Nat → Prop} {ks : List am_K} {q : vw_C}
    (hS : am_sys S) (hl9 : l.stackTraces = false) (hM2 : am_Mt S M2 (.ref k :: as) σ post) (hx : p.tables.exec = Jvm.exec) (hb : c.code = cc) (hml : c.maxLocals = nL) (hown : s.vm.findClass own = some m.cls) (hts : ∀ w ∈ am_tw S, w.before args s = true)
    (hlink : (Cond.methodLink own idx (am_nm M2)).before args s = true) (hinst : (Cond.instanceMethod (am_nm M2)).before args s = true) (hsel : (Cond.selects (am_nm M2).cls (am_nm M2) (am_nm M2)).before args s = true) (hcode : Cond.code (am_nm M2) (am_cc M2) (am_mx M2) (am_rt M2) ∈ am_tw S) (hini : (Cond.initialized (am_nm M2).cls).before args s = true)
    (hy : (am_nm M2).cls ≠ "java/lang/invoke/MethodHandle" ∧ (am_nm M2).cls ≠ "java/lang/invoke/VarHandle") (hn : (parseMethodDescriptor (am_nm M2).desc).map (fun d => d.parameters.length) = some as.length)
    (hfr : (am_rm M2).frames + 1 ≤ R.frames) (hlo : 8 + (am_mx M2 + 11) + (am_rm M2).locals ≤ R.locals) (hrc : (am_rm M2).cells = 0) (hrs : (am_rm M2).slots = 0) (hce : cells ≤ R.cells) (hsl : slots ≤ R.slots) (hsz : ls.size = nL) (hw8 : (rest.map Value.category).sum ≤ 8)
    (hX0 : am_X0 S D ca ρ A s s.heap) (hA : ∀ q, s.heap.size ≤ q → A q) (hR : am_R (am_cl S) (am_sh S) (am_nw S) D ca ρ A s σ H locs) (hk : k < am_nw S) (hsh : am_sh S k = .inr (ci, ks)) (hci : (am_cl S)[ci]? = some q) (hqc : q.1 = (am_nm M2).cls) (hd : decode cc pc = .ok (.invokevirtual idx, 3))
    (kR : ∀ (r : Option Value) (σ' : am_S) (H1 : Heap) (locs1 : List Loc), post r σ' → am_R (am_cl S) (am_sh S) (am_nw S) D ca ρ A s σ' H1 locs1 → H.size ≤ H1.size → (∀ q : Nat, q < H.size → ¬ am_Ar S ρ H.size q → H1[q]? = H[q]?) → W p l e R s m args below meth c H1 locs1 cells slots Q (F0 m (pc + 3) ls ((r.map (am_v ρ)).toList ++ rest))) :
    W p l e R s m args below meth c H locs cells slots Q (F0 m pc ls ((as.map (am_v ρ)).reverse ++ .ref (ρ k) :: rest)) := by
  have he := am_ws_at (sh := am_sh S) (ca := ca) (ρ := ρ) (σ := σ) hk
  rw [am_cell_o hsh] at he
  have hrec := va_recv hX0.1 hR.1 hci he
  rw [hqc] at hrec
  have hAr := am_Ar_in (S := S) hA hR.2.2.1 hR.2.1
  have hpre : PreV s H (am_nm M2).cls (ρ k) (am_Pc S D ca ρ (.ref k :: as) σ H.size) (as.map (am_v ρ)) :=
    ⟨am_Pc_blind hS, hrec, fun U hU hW => ⟨rfl, by rw [hU], by rw [hU]; exact hR.1, hR.2.1.weaken (fun _ _ _ _ => trivial), by rw [hU]; exact am_X0_warm hS hW (am_X0_heap hR.2.2.2.1 hAr hX0)⟩⟩
  have hlen2 : ∀ sig, parseMethodDescriptor (am_nm M2).desc = some sig → as.length = sig.parameters.length := by
    intro sig h
    rw [h] at hn
    exact (Option.some.inj hn).symm
  have hrun := va_runV (g := F0 m pc ls ((as.map (am_v ρ)).reverse ++ .ref (ρ k) :: rest)) (C := (am_nm M2).cls) (cells := cells) (slots := slots) (locs := locs) (e := e) (below := below) (meth := meth) (rest := rest) ⟨hx, hb, hml, hown, hts⟩ (hM2 l hl9 D ca ρ H.size) ⟨⟨hrc, hrs, hfr, hlo, am_pay hS hts hcode, List.mem_cons_self, hts _ hcode, hini, hy, hlen2, hlink⟩, hinst, hsel⟩ hpre rfl (by simp) hsz rfl (lv_room hw8) hd ⟨by omega, by omega⟩
  intro T hT X
  obtain ⟨v, st₀, t, T', L1, h0, X', hL1, e1, e2, ⟨⟨r, σ', q1, q2, q3⟩, q4⟩, st⟩ := hrun T hT X
  have hv : v = r.map (am_v ρ) := Outcome.returned.inj q1
  subst hv
  obtain ⟨z1, z2⟩ := q4
  rw [h0] at z1 z2
  have hR' : am_R (am_cl S) (am_sh S) (am_nw S) D ca ρ A s σ' T'.heap (locs ++ L1) := by
    refine ⟨by rw [e1]; exact q3, am_D_mv hR.2.1, by rw [e1]; exact Nat.le_trans hR.2.2.1 z1, fun q h1 h2 => ?_, fun q hq => ?_⟩
    · rw [e1, z2 q (Nat.lt_of_lt_of_le h1 hR.2.2.1) (fun z => h2 (hAr q z))]
      exact hR.2.2.2.1 q h1 h2
    · rcases List.mem_append.mp hq with h | h
      · exact hR.2.2.2.2 q h
      · exact hAr _ (hL1 q h)
  obtain ⟨t2, a1, b1⟩ := kR r σ' T'.heap (locs ++ L1) q2 hR' (by rw [e1]; exact z1) (fun q h1 h2 => by rw [e1]; exact z2 q h1 h2) T' rfl X'
  exact ⟨t2, st t2 a1, b1⟩
