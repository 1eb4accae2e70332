/-! constructors: rows that keep the world explicit -/
theorem kt_good {S : am_Sy} {M M2 : am_Me} (hS : am_sys S) (h : Cond.code (am_nm M2) (am_cc M2) (am_mx M2) (am_rt M2) ∈ am_tw S) : GoodIn (am_wm S M) (am_wm S M2) := by
  intro w hw
  have h1 : w ∈ am_tw S := by
    rcases List.mem_cons.mp hw with e | e
    · rw [e]; exact h
    · exact e
  exact ⟨List.mem_cons_of_mem _ h1, good_of_word (hS.2.1 w h1)⟩
theorem kt_ty {s : State} {cA cB : ClassId} {ty : FieldType} (ht : ty ∈ am_tl) (h1 : va_RA s cA ty) (h2 : va_RA s cB ty) : cA = cB := by
  simp only [am_tl, List.mem_cons, List.not_mem_nil, or_false] at ht
  rcases ht with rfl | rfl | rfl | rfl <;> exact Option.some.inj (h1.symm.trans h2)
/-- what a kind of array needs -/
def kt_Z (atype : ArrayType) (ty : FieldType) (t0 : Nat) (n : Int32) (N' : Nat) (z : (Nat → Int32) ⊕ (Nat → Int64) ⊕ (Nat → UInt32) ⊕ (Nat → UInt64) ⊕ (Nat → Option Nat)) : Prop :=
  newarray.typeOf atype = ty ∧ am_tl[t0]? = some ty ∧ (∀ cA : ClassId, vp_cell cA (N', z) = arrV cA N' (fun _ => defaultValue ty)) ∧ ¬ n < 0 ∧ n.toNatClampNeg = N' ∧ N' * componentBytes ty ≤ 536870912 ∧ parseFieldDescriptor "[I" = some (.array .int)
def kt_zI : (Nat → Int32) ⊕ (Nat → Int64) ⊕ (Nat → UInt32) ⊕ (Nat → UInt64) ⊕ (Nat → Option Nat) := .inl (fun _ => 0)
def kt_zL : (Nat → Int32) ⊕ (Nat → Int64) ⊕ (Nat → UInt32) ⊕ (Nat → UInt64) ⊕ (Nat → Option Nat) := .inr (.inl (fun _ => 0))
theorem kt_Zi {n : Int32} {N' : Nat} (h : (!decide (n < 0) && decide (n.toNatClampNeg = N') && decide (N' ≤ 10000)) = true) : kt_Z .int .int 0 n N' kt_zI := by
  simp only [Bool.and_eq_true, Bool.not_eq_true', decide_eq_false_iff_not, decide_eq_true_eq] at h
  have e9 : componentBytes .int = 4 := rfl
  exact ⟨rfl, rfl, fun _ => rfl, h.1.1, h.1.2, by rw [e9]; omega, rfl⟩
theorem kt_Zl {n : Int32} {N' : Nat} (h : (!decide (n < 0) && decide (n.toNatClampNeg = N') && decide (N' ≤ 10000)) = true) : kt_Z .long .long 1 n N' kt_zL := by
  simp only [Bool.and_eq_true, Bool.not_eq_true', decide_eq_false_iff_not, decide_eq_true_eq] at h
  have e9 : componentBytes .long = 8 := rfl
  exact ⟨rfl, rfl, fun _ => rfl, h.1.1, h.1.2, by rw [e9]; omega, rfl⟩
theorem kt_Zb {n : Int32} {N' : Nat} (h : (!decide (n < 0) && decide (n.toNatClampNeg = N') && decide (N' ≤ 10000)) = true) : kt_Z .byte .byte 2 n N' kt_zI := by
  simp only [Bool.and_eq_true, Bool.not_eq_true', decide_eq_false_iff_not, decide_eq_true_eq] at h
  have e9 : componentBytes .byte = 1 := rfl
  exact ⟨rfl, rfl, fun _ => rfl, h.1.1, h.1.2, by rw [e9]; omega, rfl⟩
theorem kt_Zz {n : Int32} {N' : Nat} (h : (!decide (n < 0) && decide (n.toNatClampNeg = N') && decide (N' ≤ 10000)) = true) : kt_Z .boolean .boolean 3 n N' kt_zI := by
  simp only [Bool.and_eq_true, Bool.not_eq_true', decide_eq_false_iff_not, decide_eq_true_eq] at h
  have e9 : componentBytes .boolean = 1 := rfl
  exact ⟨rfl, rfl, fun _ => rfl, h.1.1, h.1.2, by rw [e9]; omega, rfl⟩
/-- an int pushed by iconst, bipush or sipush -/
def kt_pu (cc : ByteArray) (pc : Nat) (n : Int32) (pc2 : Nat) : Prop := (∃ k : Int, decode cc pc = .ok (.iconst k, 1) ∧ Int32.ofInt k = n ∧ pc2 = pc + 1) ∨ (∃ k : Int, decode cc pc = .ok (.bipush k, 2) ∧ (Int8.ofInt k).toInt32 = n ∧ pc2 = pc + 2) ∨ ∃ k : Int, decode cc pc = .ok (.sipush k, 3) ∧ (Int16.ofInt k).toInt32 = n ∧ pc2 = pc + 3
theorem kt_pc {cc : ByteArray} {pc : Nat} {k : Int} {n : Int32} (h : decode cc pc = .ok (.iconst k, 1)) (h2 : Int32.ofInt k = n) : kt_pu cc pc n (pc + 1) := .inl ⟨k, h, h2, rfl⟩
theorem kt_pb {cc : ByteArray} {pc : Nat} {k : Int} {n : Int32} (h : decode cc pc = .ok (.bipush k, 2)) (h2 : (Int8.ofInt k).toInt32 = n) : kt_pu cc pc n (pc + 2) := .inr (.inl ⟨k, h, h2, rfl⟩)
theorem kt_ps {cc : ByteArray} {pc : Nat} {k : Int} {n : Int32} (h : decode cc pc = .ok (.sipush k, 3)) (h2 : (Int16.ofInt k).toInt32 = n) : kt_pu cc pc n (pc + 3) := .inr (.inr ⟨k, h, h2, rfl⟩)
def kt_E (cc : ByteArray) (own : String) (p : Program) (s : State) (m : MethodId) (args : Array Value) (meth : Method) (c : Code) : Prop := p.tables.exec = Jvm.exec ∧ c.code = cc ∧ s.vm.findClass own = some m.cls ∧ (∀ w ∈ tw_, w.before args s = true) ∧ meth.name = "<init>"
/-- what a final field needs: place, name, type -/
def kt_F (cl : List vw_C) (ci j : Nat) (own : String) (C : String) (T : u_T) (N : Nat) (index : Nat) (ty : FieldType) : Prop := am_c1k (C, T, N) tw_ ∧ cl[ci]? = some (C, T, N) ∧ j < N ∧ Cond.fieldLink own index own (T j).2.1 (T j).2.2.1 ∈ tw_ ∧ (T j).2.2.2 = true ∧ (T j).1 = own ∧ parseFieldDescriptor (T j).2.2.1 = some ty
theorem kt_nd : ∀ (l : List Nat), l.Nodup → va_nd l = true
  | [], _ => rfl
  | a :: l, h => by
    have h2 := List.nodup_cons.mp h
    simp only [va_nd, Bool.and_eq_true, decide_eq_true_eq]
    exact ⟨h2.1, kt_nd l h2.2⟩
section KT
variable {p : Program} {l : Launch} {e : Env} {R : Room} {s : State} {m : MethodId} {args : Array Value} {below : List Frame} {meth : Method} {c : Code} {H : Heap} {locs : List Loc} {cells slots : Nat} {Q : State → Prop} {cc : ByteArray} {pc : Nat} {ls : Array Slot} {rest : List Value} {D : va_G} {cl : List vw_C} {A : Nat → Prop} {ws : va_W} {H0 : Heap} {ca : Nat → ClassId} {own : String}
theorem kt_push (hexec : p.tables.exec = Jvm.exec) (hb : c.code = cc) {n : Int32} {pc2 : Nat} (h : kt_pu cc pc n pc2) (k : W p l e R s m args below meth c H locs cells slots Q (F0 m pc2 ls (.int n :: rest))) : W p l e R s m args below meth c H locs cells slots Q (F0 m pc ls rest) := by
  rcases h with ⟨k', h1, h2, rfl⟩ | ⟨k', h1, h2, rfl⟩ | ⟨k', h1, h2, rfl⟩
  · exact lv_iconst hexec hb h1 h2 k
  · exact lv_bipush hexec hb h1 h2 k
  · exact lv_sipush hexec hb h1 h2 k
theorem kt_newa (E : kt_E cc own p s m args meth c) {atype : ArrayType} {ty : FieldType} {t0 : Nat} {n : Int32} {N' : Nat} {z : (Nat → Int32) ⊕ (Nat → Int64) ⊕ (Nat → UInt32) ⊕ (Nat → UInt64) ⊕ (Nat → Option Nat)} (hz : kt_Z atype ty t0 n N' z) (hw : Cond.arrayClass ty ∈ tw_) (hK : va_K D cl (am_tys ca) s) (hP : va_P D cl ws H) (hD : va_D A ws) (hS : va_S A H0 H locs) (hA : ∀ q, H0.size ≤ q → A q)
    (hcells : cells + 1 ≤ R.cells) (hslots : slots + N' ≤ R.slots) (hdg : decode cc pc = .ok (.newarray atype, 2))
    (kk : ∀ (q : Nat) (H1 : Heap), va_P D cl (ws ++ [(q, .inl (ca t0, N', z))]) H1 → va_D A (ws ++ [(q, .inl (ca t0, N', z))]) → va_S A H0 H1 locs → W p l e R s m args below meth c H1 locs (cells + 1) (slots + N') Q (F0 m (pc + 2) ls (.ref q :: rest))) : W p l e R s m args below meth c H locs cells slots Q (F0 m pc ls (.int n :: rest)) := by
  obtain ⟨z1, z2, z3, z4, z5, z6, -⟩ := hz
  refine va_newa E.1 E.2.1 (by rw [z1]; exact E.2.2.2.1 _ hw) z1 hK hP hD hS hA z3 z4 z5 z6 hcells hslots hdg (fun q cA H1 hK1 hP1 hD1 hS1 => ?_)
  have h1 := (hK1.2 4 (cA, ty) (by simp [am_tys])).2
  have h2 := (hK.2 t0 (ca t0, ty) (am_tys_at z2)).2
  have e := kt_ty (List.mem_of_getElem? z2) h1 h2
  subst e
  exact kk q H1 hP1 hD1 hS1
/-- a final field of the object that is made -/
theorem kt_put (E : kt_E cc own p s m args meth c) {C : String} {T : u_T} {N ci j index : Nat} {ty : FieldType} (hf : kt_F cl ci j own C T N index ty) {h0 : Nat} {fs : List Value} (hK : va_K D cl (am_tys ca) s) (hP : va_P D cl ((h0, .inr (ci, fs)) :: ws) H) (hD : va_D A ((h0, .inr (ci, fs)) :: ws)) (hS : va_S A H0 H locs)
    (hdg : decode cc pc = .ok (.putfield index, 3)) {v : Value} (hn : narrow ty v = v) (hfit : fits ty v = true) (hl : j < fs.length) {fs' : List Value} (hfs : fs.set j v = fs')
    (kk : ∀ (H1 : Heap) (locs1 : List Loc), va_P D cl ((h0, .inr (ci, fs')) :: ws) H1 → va_D A ((h0, .inr (ci, fs')) :: ws) → va_S A H0 H1 locs1 → W p l e R s m args below meth c H1 locs1 cells slots Q (F0 m (pc + 3) ls rest)) : W p l e R s m args below meth c H locs cells slots Q (F0 m pc ls (v :: .ref h0 :: rest)) := by
  obtain ⟨⟨c1, c2, tyf, c3⟩, f1, f2, f3, f4, f5, f6⟩ := hf
  subst hfs
  exact va_putF (own := own) (ref := own) E.1 E.2.1 E.2.2.2.1 c1 tyf c3 c2 E.2.2.1 hK hP hD hS 0 rfl f1 j f2 (E.2.2.2.1 _ f3) (fun x h => by rw [f5] at h; exact h) f4 E.2.2.2.2 f5 f6 hn hfit hl hdg kk
theorem kt_fa (E : kt_E cc own p s m args meth c) {C : String} {T : u_T} {N ci j index : Nat} {atype : ArrayType} {ty : FieldType} {t0 : Nat} {n : Int32} {N' : Nat} {z : (Nat → Int32) ⊕ (Nat → Int64) ⊕ (Nat → UInt32) ⊕ (Nat → UInt64) ⊕ (Nat → Option Nat)} (hz : kt_Z atype ty t0 n N' z) (hf : kt_F cl ci j own C T N index (.array ty)) (hw : Cond.arrayClass ty ∈ tw_)
    {h0 : Nat} {fs : List Value} (hK : va_K D cl (am_tys ca) s) (hP : va_P D cl ((h0, .inr (ci, fs)) :: ws) H) (hD : va_D A ((h0, .inr (ci, fs)) :: ws)) (hS : va_S A H0 H locs) (hA : ∀ q, H0.size ≤ q → A q) (hl0 : ls[0]? = some (.val (.ref h0)))
    (d0 : decode cc pc = .ok (.aload_n 0, 1)) {pc2 : Nat} (hp : kt_pu cc (pc + 1) n pc2) (d2 : decode cc pc2 = .ok (.newarray atype, 2)) (d3 : decode cc (pc2 + 2) = .ok (.putfield index, 3)) (hl : j < fs.length)
    {cells' slots' : Nat} (hce : cells + 1 = cells') (hsl : slots + N' = slots') (hcells : cells' ≤ R.cells) (hslots : slots' ≤ R.slots) {fs' : Nat → List Value} {ws' : Nat → va_W} (hfs : ∀ q, fs.set j (.ref q) = fs' q) (hws : ∀ q, ws ++ [(q, .inl (ca t0, N', z))] = ws' q)
    (kk : ∀ (q : Nat) (H1 : Heap) (locs1 : List Loc), va_P D cl ((h0, .inr (ci, fs' q)) :: ws' q) H1 → va_D A ((h0, .inr (ci, fs' q)) :: ws' q) → va_S A H0 H1 locs1 → W p l e R s m args below meth c H1 locs1 cells' slots' Q (F0 m (pc2 + 5) ls rest)) : W p l e R s m args below meth c H locs cells slots Q (F0 m pc ls rest) := by
  subst hce
  subst hsl
  refine lv_aload_n E.1 E.2.1 d0 rfl hl0 ?_
  refine kt_push E.1 E.2.1 hp ?_
  refine kt_newa E hz hw hK hP hD hS hA hcells hslots d2 (fun q H1 hP1 hD1 hS1 => ?_)
  have e1 : ((h0, .inr (ci, fs)) :: ws) ++ [(q, .inl (ca t0, N', z))] = (h0, .inr (ci, fs)) :: ws' q := by rw [← hws q]; rfl
  rw [e1] at hP1 hD1
  refine kt_put E hf hK hP1 hD1 hS1 d3 (by rfl) (by rfl) hl (hfs q) (fun H2 locs2 hP2 hD2 hS2 => ?_)
  exact kk q H2 locs2 hP2 hD2 hS2
theorem kt_new (E : kt_E cc own p s m args meth c) {C : String} {T : u_T} {N ci index : Nat} (hck : am_c1k (C, T, N) tw_) (hc : cl[ci]? = some (C, T, N)) (hcl : Cond.classLink own index C ∈ tw_) (hinst : Cond.instantiable C N ∈ tw_) (hini : Cond.initialized C ∈ tw_) (tyf : Nat → FieldType) (hty : ∀ k, k < N → parseFieldDescriptor (T k).2.2.1 = some (tyf k)) {fs : List Value} (hfs : ∀ j, j < N → defaultValue (tyf j) = vp_V fs j)
    (hK : va_K D cl (am_tys ca) s) (hP : va_P D cl ws H) (hD : va_D A ws) (hS : va_S A H0 H locs) (hA : ∀ q, H0.size ≤ q → A q)
    {cells' slots' : Nat} (hce : cells + 1 = cells') (hsl : slots + N = slots') (hcells : cells' ≤ R.cells) (hslots : slots' ≤ R.slots) (hdg : decode cc pc = .ok (.new index, 3))
    (kk : ∀ (q : Nat) (H1 : Heap), va_P D cl (ws ++ [(q, .inr (ci, fs))]) H1 → va_D A (ws ++ [(q, .inr (ci, fs))]) → va_S A H0 H1 locs → W p l e R s m args below meth c H1 locs cells' slots' Q (F0 m (pc + 3) ls (.ref q :: rest))) : W p l e R s m args below meth c H locs cells slots Q (F0 m pc ls rest) := by
  subst hce
  subst hsl
  exact va_new E.1 E.2.1 E.2.2.2.1 hck.1 tyf hty E.2.2.1 (E.2.2.2.1 _ hcl) (E.2.2.2.1 _ hinst) (E.2.2.2.1 _ hini) hK hP hD hS hA hc hfs hcells hslots hdg kk
/-- what a constructor is asked, and what it leaves -/
def kt_Pc (D : va_G) (cl : List vw_C) (ca : Nat → ClassId) (as : List Value) (ob ci : Nat) (bl : List Value) (sz : Nat) : Array Value → State → Prop := va_Pc (.ref ob :: as) (fun U => U.heap.size = sz ∧ va_P D cl [(ob, .inr (ci, bl))] U.heap ∧ va_K D cl (am_tys ca) U ∧ (∀ w ∈ nw_, va_Nw w U) ∧ va_D (fun _ => True) [(ob, .inr (ci, bl))])
def kt_Qc (D : va_G) (cl : List vw_C) (ca : Nat → ClassId) (ob ci : Nat) (bl : List Value) (sz : Nat) (wo : (Nat → Nat) → va_W) : Array Value → State → Outcome → State → Prop := va_Qv (fun _ : Nat → Nat => True) (fun u t => va_P D cl (wo u) t.heap ∧ va_K D cl (am_tys ca) t ∧ va_D (va_A [(ob, .inr (ci, bl))] sz) (wo u)) (va_A [(ob, .inr (ci, bl))] sz)
theorem kt_call {mc ms ob ci : Nat} {bl : List Value} {as : List Value} {wo : (Nat → Nat) → va_W} {st0 : List Value} {av : Array Value} (hr : PreS s H (kt_Pc D cl ca as ob ci bl H.size) (.ref ob :: as) → va_Run p l e R s m args below meth c H locs cells slots mc ms (F0 m pc ls st0) rest (kt_Qc D cl ca ob ci bl H.size wo av) (va_A [(ob, .inr (ci, bl))] H.size))
    (hK : va_K D cl (am_tys ca) s) (hN : ∀ w ∈ nw_, va_Nw w s) (hP : va_P D cl (ws ++ [(ob, .inr (ci, bl))]) H) (hD : va_D A (ws ++ [(ob, .inr (ci, bl))])) (hS : va_S A H0 H locs) (hA : ∀ q, H0.size ≤ q → A q)
    {cells' slots' : Nat} (hce : cells + mc = cells') (hsl : slots + ms = slots')
    (kk : ∀ (u : Nat → Nat) (H1 : Heap) (locs1 : List Loc), va_P D cl (ws ++ wo u) H1 → va_D A (ws ++ wo u) → va_S A H0 H1 locs1 → W p l e R s m args below meth c H1 locs1 cells' slots' Q (F0 m (pc + 3) ls rest)) : W p l e R s m args below meth c H locs cells slots Q (F0 m pc ls st0) := by
  subst hce
  subst hsl
  have e0 : (ws ++ [((ob, .inr (ci, bl)) : Nat × va_E)])[ws.length]? = some (ob, .inr (ci, bl)) := by simp
  have eC : [ws.length].map (fun i => (ws ++ [((ob, .inr (ci, bl)) : Nat × va_E)])[i]?) = [((ob, .inr (ci, bl)) : Nat × va_E)].map some := by simp
  have eR : (List.range ws.length).map (fun i => (ws ++ [((ob, .inr (ci, bl)) : Nat × va_E)])[i]?) = ws.map some := by
    apply List.ext_getElem?
    intro i
    rw [List.getElem?_map, List.getElem?_map]
    by_cases hi : i < ws.length
    · rw [List.getElem?_range hi]
      show some ((ws ++ _)[i]?) = _
      rw [List.getElem?_append_left hi, List.getElem?_eq_getElem hi]; rfl
    · rw [List.getElem?_eq_none (by simp; omega), List.getElem?_eq_none (by omega)]; rfl
  have hPc : va_P D cl [(ob, .inr (ci, bl))] H := fun k q hq => by
    have hz : k < 1 := (List.getElem?_eq_some_iff.mp hq).1
    rw [show k = 0 by omega] at hq
    cases hq
    exact hP ws.length _ e0
  have hDc : va_D (fun _ => True) [((ob, .inr (ci, bl)) : Nat × va_E)] := (hD.sub [ws.length] (by simp [va_nd]) eC).weaken (fun _ _ _ _ => trivial)
  have hFc := va_free (wc := [(ob, .inr (ci, bl))]) hD hS hA [ws.length] eC
  refine va_callv (hr ⟨fun a9 U g mk q => by
      obtain ⟨q0, q1, qP, qK, qN, qD⟩ := q
      exact ⟨q0, q1, qP, va_K.moved (u := U) (U := U.calling g mk a9) (Vm.Alike.refl U.vm) qK, fun w hw => va_Nw.same (u := U) (U := U.calling g mk a9) (am_nest_tab ((List.mem_filter.mp hw).2)) rfl (qN w hw), qD⟩,
    fun U hU hW => ⟨rfl, by rw [hU], by rw [hU]; exact hPc, va_K.moved hW.alike hK, fun w hw => am_nest_warm ((List.mem_filter.mp hw).2) hW (hN w hw), hDc⟩⟩) hS (fun q _ h => hFc q h) hFc (fun u t H1 locs1 ht hvm h5 hB hz1 hk1 hS1 => ?_)
  obtain ⟨hP1, hK1, hD1⟩ := hB
  rw [ht] at hP1
  obtain ⟨hP2, hD2⟩ := va_join (wr := ws) (w1 := wo u) hP hD [ws.length] (List.range ws.length) eC eR (kt_nd _ List.nodup_range) (by
    intro i hi h
    simp at hi h
    omega) hk1 hFc hP1 hD1
  exact kk u H1 locs1 hP2 hD2 hS1
end KT
