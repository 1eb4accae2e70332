/-! constructors, by the kit's rows -/
theorem kt_good {S : am_Sy} {M M2 : am_Me} (hS : am_sys S) (h : Cond.code (am_nm M2) (am_cc M2) (am_mx M2) (am_rt M2) ∈ am_tw S) : GoodIn (am_wm S M) (am_wm S M2) := by
  intro w hw
  have h1 : w ∈ am_tw S := by
    rcases List.mem_cons.mp hw with e | e
    · rw [e]; exact h
    · exact e
  exact ⟨List.mem_cons_of_mem _ h1, good_of_word (hS.2.1 w h1)⟩
theorem kt_ty {s : State} {cA cB : ClassId} {ty : FieldType} (ht : ty ∈ am_tl) (h1 : va_RA s cA ty) (h2 : va_RA s cB ty) : cA = cB := by
  simp only [am_tl, List.mem_cons, List.not_mem_nil, or_false] at ht
  rcases ht with rfl | rfl | rfl | rfl <;> exact Option.some.inj (h1.symm.trans h2)
section KT
variable {p : Program} {l : Launch} {e : Env} {R : Room} {s : State} {m : MethodId} {args : Array Value} {below : List Frame} {meth : Method} {c : Code} {H : Heap} {locs : List Loc} {cells slots : Nat} {Q : State → Prop} {cc : ByteArray} {pc : Nat} {ls : Array Slot} {rest : List Value} {D : va_G} {cl : List vw_C} {A : Nat → Prop} {ws : va_W} {H0 : Heap} {ca : Nat → ClassId}
theorem kt_newa (hexec : p.tables.exec = Jvm.exec) (hb : c.code = cc) {atype : ArrayType} (harr : (Cond.arrayClass (newarray.typeOf atype)).before args s = true) {ty : FieldType} (hty : newarray.typeOf atype = ty) {t0 : Nat} (ht0 : am_tl[t0]? = some ty) (hK : va_K D cl (am_tys ca) s) (hP : va_P D cl ws H) (hD : va_D A ws) (hS : va_S A H0 H locs) (hA : ∀ q, H0.size ≤ q → A q)
    {n : Int32} {N' : Nat} {a0 : vp_A} (ha : ∀ cA : ClassId, vp_cell cA a0 = arrV cA N' (fun _ => defaultValue ty)) (hn : ¬ n < 0) (hN : n.toNatClampNeg = N') (hbytes : N' * componentBytes ty ≤ 536870912) (hcells : cells + 1 ≤ R.cells) (hslots : slots + N' ≤ R.slots) (hdg : decode cc pc = .ok (.newarray atype, 2))
    (kk : ∀ (q : Nat) (H1 : Heap), va_P D cl (ws ++ [(q, .inl (ca t0, a0))]) H1 → va_D A (ws ++ [(q, .inl (ca t0, a0))]) → va_S A H0 H1 locs → W p l e R s m args below meth c H1 locs (cells + 1) (slots + N') Q (F0 m (pc + 2) ls (.ref q :: rest))) : W p l e R s m args below meth c H locs cells slots Q (F0 m pc ls (.int n :: rest)) := by
  refine va_newa hexec hb harr hty hK hP hD hS hA ha hn hN hbytes hcells hslots hdg (fun q cA H1 hK1 hP1 hD1 hS1 => ?_)
  have h1 := (hK1.2 4 (cA, ty) (by simp [am_tys])).2
  have h2 := (hK.2 t0 (ca t0, ty) (am_tys_at ht0)).2
  have e := kt_ty (List.mem_of_getElem? ht0) h1 h2
  subst e
  exact kk q H1 hP1 hD1 hS1
end KT
def wo_Cu_init (h0 a1 : Nat) (ca : Nat → ClassId) (u : Nat → Nat) : va_W := [(h0, .inr (2, [.ref a1, .int 0, .int 0, .int 0]))]
set_option maxHeartbeats 4000000 in
set_option maxRecDepth 100000 in
theorem k_Cu_init (l : Launch) (dC : Nat → ClassId) (dI : Nat → Nat → Nat) (ca : Nat → ClassId) (h0 a1 sz : Nat) : Met l (am_nm M_Cu_init) (am_wm S_c M_Cu_init) (am_rm M_Cu_init) (va_Pc [.ref h0, .ref a1] (fun U => U.heap.size = sz ∧ va_P (dC, dI) cl_c [(h0, .inr (2, [.null, .int 0, .int 0, .int 0]))] U.heap ∧ va_K (dC, dI) cl_c (am_tys ca) U ∧ (∀ w ∈ nw_, va_Nw w U) ∧ va_D (fun _ => True) [(h0, .inr (2, [.null, .int 0, .int 0, .int 0]))])) (va_Qv (fun _ : Nat → Nat => True) (fun u t => va_P (dC, dI) cl_c (wo_Cu_init h0 a1 ca u) t.heap ∧ va_K (dC, dI) cl_c (am_tys ca) t ∧ va_D (va_A [(h0, .inr (2, [.null, .int 0, .int 0, .int 0]))] sz) (wo_Cu_init h0 a1 ca u)) (va_A [(h0, .inr (2, [.null, .int 0, .int 0, .int 0]))] sz)) 0 0 (va_A [(h0, .inr (2, [.null, .int 0, .int 0, .int 0]))] sz) := by
  refine Met.ofW (cc := am_cc M_Cu_init) (maxL := 2) (ret := none) (by decide +kernel) rfl ?_
  intro p e s m args below meth c s₁ B hml hv
  obtain ⟨rfl, hsz, hP, hK, hN, hD0⟩ := hv
  have hx := B.exec
  have hb := B.bytes
  have hr := B.returns
  have hts := atoms_spec (ws := am_wm S_c M_Cu_init) B.pre
  have hown : s.vm.findClass R_Cu = some m.cls := findClass_of_methodNamed B.named
  have hlocks := B.notSynchronized
  have hin : meth.name = "<init>" := (name_of_methodNamed B.named B.method).1
  subst hsz
  have hD := hD0.self (sz := s.heap.size)
  generalize hAe : va_A [(h0, .inr (2, [.null, .int 0, .int 0, .int 0]))] s.heap.size = A at hD ⊢
  have hA : ∀ q : Nat, s.heap.size ≤ q → A q := fun q h => by rw [← hAe]; exact Or.inr h
  have hS : va_S A s.heap s.heap [] := va_S.rf
  have hl := lv_entry ([.ref h0, .ref a1]) (n := 2) (Nat.le_of_ble_eq_true rfl)
  rw [lg_entry_eq]
  generalize (lg_sl ([.ref h0, .ref a1]) ++ List.replicate (2 - (lg_sl ([.ref h0, .ref a1])).length) Slot.unset).toArray = ls at hl ⊢
  have hl : lv_has ls 2 [(0, .ref h0), (1, .ref a1)] := hl
  refine lv_aload_n hx hb (ok_Cu_init.2.2.2.2.2 0 _ rfl).1 rfl (lv_at hl 0 rfl) ?_
  refine W.objInit hx hb hown (hts _ (List.mem_cons_of_mem _ (am_in_g (tl := lw_tbl) (h := 155) (w := .methodLink R_Cu 3 objectInit) (by decide +kernel) rfl))) (hts _ (List.mem_cons_of_mem _ (am_in_g (tl := lw_tbl) (h := 142) (w := .instanceMethod objectInit) (by decide +kernel) rfl))) (hts _ (List.mem_cons_of_mem _ (am_in_g (tl := lw_tbl) (h := 143) (w := .code objectInit ⟨#[0xb1]⟩ 1 none) (by decide +kernel) rfl))) rfl (by rw [hml]; exact hl.1) rfl (ok_Cu_init.2.2.2.2.2 1 _ rfl).1 (show 1 ≤ 1 from by decide) (show 12 ≤ 12 from by decide) ?_
  refine W.eq (g2 := F0 m 4 ls []) rfl ?_
  refine lv_aload_n hx hb (ok_Cu_init.2.2.2.2.2 4 _ rfl).1 rfl (lv_at hl 0 rfl) ?_
  refine lv_aload_n hx hb (ok_Cu_init.2.2.2.2.2 5 _ rfl).1 rfl (lv_at hl 1 rfl) ?_
  refine va_putF (D := (dC, dI)) (ci := 2) (v := .ref a1) (ty := .array .byte) (C := R_Cu) (T := F_Cu) (N := 4) hx hb hts (fun w h => List.mem_cons_of_mem _ (ly_Cu w h)) t_Cu ty_Cu nm_Cu hown hK hP hD hS 0 rfl rfl 0 (by decide) (hts _ (List.mem_cons_of_mem _ (am_in_g (tl := lw_tbl) (h := 156) (w := .fieldLink R_Cu 9 "FrameFinder$Cursor" "image" "[B") (by decide +kernel) rfl))) (fun _ h9 => h9) rfl hin rfl (by decide +kernel) rfl rfl (Nat.le_of_ble_eq_true rfl) (ok_Cu_init.2.2.2.2.2 6 _ rfl).1 (fun H locs hP hD hS => ?_)
  have hP9 : va_P (dC, dI) cl_c (wo_Cu_init h0 a1 ca (fun i => ([] : List Nat).getD i 0)) H := hP
  have hD9 : va_D A (wo_Cu_init h0 a1 ca (fun i => ([] : List Nat).getD i 0)) := hD
  exact W.vret hx hb hr (fun t ht hW => ⟨⟨(fun i => ([] : List Nat).getD i 0), rfl, trivial, by rw [ht]; exact hP9, va_K.moved hW.alike hK, hD9⟩, hS.F ht⟩) hS.2.2 (ok_Cu_init.2.2.2.2.2 9 _ rfl).1
def wo_Ab_init (h0 : Nat) (ca : Nat → ClassId) (u : Nat → Nat) : va_W := [(h0, .inr (5, [.ref (u 0), .ref (u 1), .ref (u 2), .ref (u 3), .ref (u 4), .ref (u 5), .ref (u 6), .int 0])), ((u 0), .inl (ca 1, 40, .inr (.inl (fun _ => 0)))), ((u 1), .inl (ca 1, 40, .inr (.inl (fun _ => 0)))), ((u 2), .inl (ca 3, 40, .inl (fun _ => 0))), ((u 3), .inl (ca 0, 40, .inl (fun _ => 0))), ((u 4), .inl (ca 1, 480, .inr (.inl (fun _ => 0)))), ((u 5), .inl (ca 0, 480, .inl (fun _ => 0))), ((u 6), .inl (ca 1, 480, .inr (.inl (fun _ => 0))))]
set_option maxHeartbeats 4000000 in
set_option maxRecDepth 100000 in
theorem k_Ab_init (l : Launch) (dC : Nat → ClassId) (dI : Nat → Nat → Nat) (ca : Nat → ClassId) (h0 sz : Nat) : Met l (am_nm M_Ab_init) (am_wm S_c M_Ab_init) (am_rm M_Ab_init) (va_Pc [.ref h0] (fun U => U.heap.size = sz ∧ va_P (dC, dI) cl_c [(h0, .inr (5, [.null, .null, .null, .null, .null, .null, .null, .int 0]))] U.heap ∧ va_K (dC, dI) cl_c (am_tys ca) U ∧ (∀ w ∈ nw_, va_Nw w U) ∧ va_D (fun _ => True) [(h0, .inr (5, [.null, .null, .null, .null, .null, .null, .null, .int 0]))])) (va_Qv (fun _ : Nat → Nat => True) (fun u t => va_P (dC, dI) cl_c (wo_Ab_init h0 ca u) t.heap ∧ va_K (dC, dI) cl_c (am_tys ca) t ∧ va_D (va_A [(h0, .inr (5, [.null, .null, .null, .null, .null, .null, .null, .int 0]))] sz) (wo_Ab_init h0 ca u)) (va_A [(h0, .inr (5, [.null, .null, .null, .null, .null, .null, .null, .int 0]))] sz)) 7 1600 (va_A [(h0, .inr (5, [.null, .null, .null, .null, .null, .null, .null, .int 0]))] sz) := by
  refine Met.ofW (cc := am_cc M_Ab_init) (maxL := 1) (ret := none) (by decide +kernel) rfl ?_
  intro p e s m args below meth c s₁ B hml hv
  obtain ⟨rfl, hsz, hP, hK, hN, hD0⟩ := hv
  have hx := B.exec
  have hb := B.bytes
  have hr := B.returns
  have hts := atoms_spec (ws := am_wm S_c M_Ab_init) B.pre
  have hown : s.vm.findClass R_Ab = some m.cls := findClass_of_methodNamed B.named
  have hlocks := B.notSynchronized
  have hin : meth.name = "<init>" := (name_of_methodNamed B.named B.method).1
  subst hsz
  have hD := hD0.self (sz := s.heap.size)
  generalize hAe : va_A [(h0, .inr (5, [.null, .null, .null, .null, .null, .null, .null, .int 0]))] s.heap.size = A at hD ⊢
  have hA : ∀ q : Nat, s.heap.size ≤ q → A q := fun q h => by rw [← hAe]; exact Or.inr h
  have hS : va_S A s.heap s.heap [] := va_S.rf
  have hl := lv_entry ([.ref h0]) (n := 1) (Nat.le_of_ble_eq_true rfl)
  rw [lg_entry_eq]
  generalize (lg_sl ([.ref h0]) ++ List.replicate (1 - (lg_sl ([.ref h0])).length) Slot.unset).toArray = ls at hl ⊢
  have hl : lv_has ls 1 [(0, .ref h0)] := hl
  refine lv_aload_n hx hb (ok_Ab_init.2.2.2.2.2 0 _ rfl).1 rfl (lv_at hl 0 rfl) ?_
  refine W.objInit hx hb hown (hts _ (List.mem_cons_of_mem _ (am_in_g (tl := lw_tbl) (h := 298) (w := .methodLink R_Ab 3 objectInit) (by decide +kernel) rfl))) (hts _ (List.mem_cons_of_mem _ (am_in_g (tl := lw_tbl) (h := 142) (w := .instanceMethod objectInit) (by decide +kernel) rfl))) (hts _ (List.mem_cons_of_mem _ (am_in_g (tl := lw_tbl) (h := 143) (w := .code objectInit ⟨#[0xb1]⟩ 1 none) (by decide +kernel) rfl))) rfl (by rw [hml]; exact hl.1) rfl (ok_Ab_init.2.2.2.2.2 1 _ rfl).1 (show 1 ≤ 1 from by decide) (show 12 ≤ 12 from by decide) ?_
  refine W.eq (g2 := F0 m 4 ls []) rfl ?_
  refine lv_aload_n hx hb (ok_Ab_init.2.2.2.2.2 4 _ rfl).1 rfl (lv_at hl 0 rfl) ?_
  refine lv_bipush (v := 40) hx hb (ok_Ab_init.2.2.2.2.2 5 _ rfl).1 (by decide) ?_
  refine kt_newa (atype := .long) (ty := .long) (t0 := 1) (N' := 40) (a0 := (40, .inr (.inl (fun _ => 0)))) hx hb (hts _ (List.mem_cons_of_mem _ (am_in_g (tl := lw_tbl) (h := 185) (w := .arrayClass .long) (by decide +kernel) rfl))) rfl rfl hK hP hD hS hA (fun _ => rfl) (by decide) (by decide) (by decide) (show 1 ≤ 7 from by decide) (show 40 ≤ 1600 from by decide) (ok_Ab_init.2.2.2.2.2 7 _ rfl).1 (fun q7 H hP hD hS => ?_)
  refine va_putF (D := (dC, dI)) (ci := 5) (v := .ref q7) (ty := .array .long) (C := R_Ab) (T := F_Ab) (N := 8) hx hb hts (fun w h => List.mem_cons_of_mem _ (ly_Ab w h)) t_Ab ty_Ab nm_Ab hown hK hP hD hS 0 rfl rfl 0 (by decide) (hts _ (List.mem_cons_of_mem _ (am_in_g (tl := lw_tbl) (h := 299) (w := .fieldLink R_Ab 9 "FrameFinder$Abbreviations" "number" "[J") (by decide +kernel) rfl))) (fun _ h9 => h9) rfl hin rfl (by decide +kernel) rfl rfl (Nat.le_of_ble_eq_true rfl) (ok_Ab_init.2.2.2.2.2 9 _ rfl).1 (fun H locs hP hD hS => ?_)
  refine lv_aload_n hx hb (ok_Ab_init.2.2.2.2.2 12 _ rfl).1 rfl (lv_at hl 0 rfl) ?_
  refine lv_bipush (v := 40) hx hb (ok_Ab_init.2.2.2.2.2 13 _ rfl).1 (by decide) ?_
  refine kt_newa (atype := .long) (ty := .long) (t0 := 1) (N' := 40) (a0 := (40, .inr (.inl (fun _ => 0)))) hx hb (hts _ (List.mem_cons_of_mem _ (am_in_g (tl := lw_tbl) (h := 185) (w := .arrayClass .long) (by decide +kernel) rfl))) rfl rfl hK hP hD hS hA (fun _ => rfl) (by decide) (by decide) (by decide) (show 2 ≤ 7 from by decide) (show 80 ≤ 1600 from by decide) (ok_Ab_init.2.2.2.2.2 15 _ rfl).1 (fun q15 H hP hD hS => ?_)
  refine va_putF (D := (dC, dI)) (ci := 5) (v := .ref q15) (ty := .array .long) (C := R_Ab) (T := F_Ab) (N := 8) hx hb hts (fun w h => List.mem_cons_of_mem _ (ly_Ab w h)) t_Ab ty_Ab nm_Ab hown hK hP hD hS 0 rfl rfl 1 (by decide) (hts _ (List.mem_cons_of_mem _ (am_in_g (tl := lw_tbl) (h := 300) (w := .fieldLink R_Ab 15 "FrameFinder$Abbreviations" "tag" "[J") (by decide +kernel) rfl))) (fun _ h9 => h9) rfl hin rfl (by decide +kernel) rfl rfl (Nat.le_of_ble_eq_true rfl) (ok_Ab_init.2.2.2.2.2 17 _ rfl).1 (fun H locs hP hD hS => ?_)
  refine lv_aload_n hx hb (ok_Ab_init.2.2.2.2.2 20 _ rfl).1 rfl (lv_at hl 0 rfl) ?_
  refine lv_bipush (v := 40) hx hb (ok_Ab_init.2.2.2.2.2 21 _ rfl).1 (by decide) ?_
  refine kt_newa (atype := .boolean) (ty := .boolean) (t0 := 3) (N' := 40) (a0 := (40, .inl (fun _ => 0))) hx hb (hts _ (List.mem_cons_of_mem _ (am_in_g (tl := lw_tbl) (h := 186) (w := .arrayClass .boolean) (by decide +kernel) rfl))) rfl rfl hK hP hD hS hA (fun _ => rfl) (by decide) (by decide) (by decide) (show 3 ≤ 7 from by decide) (show 120 ≤ 1600 from by decide) (ok_Ab_init.2.2.2.2.2 23 _ rfl).1 (fun q23 H hP hD hS => ?_)
  refine va_putF (D := (dC, dI)) (ci := 5) (v := .ref q23) (ty := .array .boolean) (C := R_Ab) (T := F_Ab) (N := 8) hx hb hts (fun w h => List.mem_cons_of_mem _ (ly_Ab w h)) t_Ab ty_Ab nm_Ab hown hK hP hD hS 0 rfl rfl 2 (by decide) (hts _ (List.mem_cons_of_mem _ (am_in_g (tl := lw_tbl) (h := 302) (w := .fieldLink R_Ab 18 "FrameFinder$Abbreviations" "hasChildren" "[Z") (by decide +kernel) rfl))) (fun _ h9 => h9) rfl hin rfl (by decide +kernel) rfl rfl (Nat.le_of_ble_eq_true rfl) (ok_Ab_init.2.2.2.2.2 25 _ rfl).1 (fun H locs hP hD hS => ?_)
  refine lv_aload_n hx hb (ok_Ab_init.2.2.2.2.2 28 _ rfl).1 rfl (lv_at hl 0 rfl) ?_
  refine lv_bipush (v := 40) hx hb (ok_Ab_init.2.2.2.2.2 29 _ rfl).1 (by decide) ?_
  refine kt_newa (atype := .int) (ty := .int) (t0 := 0) (N' := 40) (a0 := (40, .inl (fun _ => 0))) hx hb (hts _ (List.mem_cons_of_mem _ (am_in_g (tl := lw_tbl) (h := 184) (w := .arrayClass .int) (by decide +kernel) rfl))) rfl rfl hK hP hD hS hA (fun _ => rfl) (by decide) (by decide) (by decide) (show 4 ≤ 7 from by decide) (show 160 ≤ 1600 from by decide) (ok_Ab_init.2.2.2.2.2 31 _ rfl).1 (fun q31 H hP hD hS => ?_)
  refine va_putF (D := (dC, dI)) (ci := 5) (v := .ref q31) (ty := .array .int) (C := R_Ab) (T := F_Ab) (N := 8) hx hb hts (fun w h => List.mem_cons_of_mem _ (ly_Ab w h)) t_Ab ty_Ab nm_Ab hown hK hP hD hS 0 rfl rfl 3 (by decide) (hts _ (List.mem_cons_of_mem _ (am_in_g (tl := lw_tbl) (h := 304) (w := .fieldLink R_Ab 22 "FrameFinder$Abbreviations" "attributes" "[I") (by decide +kernel) rfl))) (fun _ h9 => h9) rfl hin rfl (by decide +kernel) rfl rfl (Nat.le_of_ble_eq_true rfl) (ok_Ab_init.2.2.2.2.2 33 _ rfl).1 (fun H locs hP hD hS => ?_)
  refine lv_aload_n hx hb (ok_Ab_init.2.2.2.2.2 36 _ rfl).1 rfl (lv_at hl 0 rfl) ?_
  refine lv_sipush (v := 480) hx hb (ok_Ab_init.2.2.2.2.2 37 _ rfl).1 (by decide) ?_
  refine kt_newa (atype := .long) (ty := .long) (t0 := 1) (N' := 480) (a0 := (480, .inr (.inl (fun _ => 0)))) hx hb (hts _ (List.mem_cons_of_mem _ (am_in_g (tl := lw_tbl) (h := 185) (w := .arrayClass .long) (by decide +kernel) rfl))) rfl rfl hK hP hD hS hA (fun _ => rfl) (by decide) (by decide) (by decide) (show 5 ≤ 7 from by decide) (show 640 ≤ 1600 from by decide) (ok_Ab_init.2.2.2.2.2 40 _ rfl).1 (fun q40 H hP hD hS => ?_)
  refine va_putF (D := (dC, dI)) (ci := 5) (v := .ref q40) (ty := .array .long) (C := R_Ab) (T := F_Ab) (N := 8) hx hb hts (fun w h => List.mem_cons_of_mem _ (ly_Ab w h)) t_Ab ty_Ab nm_Ab hown hK hP hD hS 0 rfl rfl 4 (by decide) (hts _ (List.mem_cons_of_mem _ (am_in_g (tl := lw_tbl) (h := 306) (w := .fieldLink R_Ab 26 "FrameFinder$Abbreviations" "attribute" "[J") (by decide +kernel) rfl))) (fun _ h9 => h9) rfl hin rfl (by decide +kernel) rfl rfl (Nat.le_of_ble_eq_true rfl) (ok_Ab_init.2.2.2.2.2 42 _ rfl).1 (fun H locs hP hD hS => ?_)
  refine lv_aload_n hx hb (ok_Ab_init.2.2.2.2.2 45 _ rfl).1 rfl (lv_at hl 0 rfl) ?_
  refine lv_sipush (v := 480) hx hb (ok_Ab_init.2.2.2.2.2 46 _ rfl).1 (by decide) ?_
  refine kt_newa (atype := .int) (ty := .int) (t0 := 0) (N' := 480) (a0 := (480, .inl (fun _ => 0))) hx hb (hts _ (List.mem_cons_of_mem _ (am_in_g (tl := lw_tbl) (h := 184) (w := .arrayClass .int) (by decide +kernel) rfl))) rfl rfl hK hP hD hS hA (fun _ => rfl) (by decide) (by decide) (by decide) (show 6 ≤ 7 from by decide) (show 1120 ≤ 1600 from by decide) (ok_Ab_init.2.2.2.2.2 49 _ rfl).1 (fun q49 H hP hD hS => ?_)
  refine va_putF (D := (dC, dI)) (ci := 5) (v := .ref q49) (ty := .array .int) (C := R_Ab) (T := F_Ab) (N := 8) hx hb hts (fun w h => List.mem_cons_of_mem _ (ly_Ab w h)) t_Ab ty_Ab nm_Ab hown hK hP hD hS 0 rfl rfl 5 (by decide) (hts _ (List.mem_cons_of_mem _ (am_in_g (tl := lw_tbl) (h := 308) (w := .fieldLink R_Ab 29 "FrameFinder$Abbreviations" "form" "[I") (by decide +kernel) rfl))) (fun _ h9 => h9) rfl hin rfl (by decide +kernel) rfl rfl (Nat.le_of_ble_eq_true rfl) (ok_Ab_init.2.2.2.2.2 51 _ rfl).1 (fun H locs hP hD hS => ?_)
  refine lv_aload_n hx hb (ok_Ab_init.2.2.2.2.2 54 _ rfl).1 rfl (lv_at hl 0 rfl) ?_
  refine lv_sipush (v := 480) hx hb (ok_Ab_init.2.2.2.2.2 55 _ rfl).1 (by decide) ?_
  refine kt_newa (atype := .long) (ty := .long) (t0 := 1) (N' := 480) (a0 := (480, .inr (.inl (fun _ => 0)))) hx hb (hts _ (List.mem_cons_of_mem _ (am_in_g (tl := lw_tbl) (h := 185) (w := .arrayClass .long) (by decide +kernel) rfl))) rfl rfl hK hP hD hS hA (fun _ => rfl) (by decide) (by decide) (by decide) (show 7 ≤ 7 from by decide) (show 1600 ≤ 1600 from by decide) (ok_Ab_init.2.2.2.2.2 58 _ rfl).1 (fun q58 H hP hD hS => ?_)
  refine va_putF (D := (dC, dI)) (ci := 5) (v := .ref q58) (ty := .array .long) (C := R_Ab) (T := F_Ab) (N := 8) hx hb hts (fun w h => List.mem_cons_of_mem _ (ly_Ab w h)) t_Ab ty_Ab nm_Ab hown hK hP hD hS 0 rfl rfl 6 (by decide) (hts _ (List.mem_cons_of_mem _ (am_in_g (tl := lw_tbl) (h := 310) (w := .fieldLink R_Ab 32 "FrameFinder$Abbreviations" "constant" "[J") (by decide +kernel) rfl))) (fun _ h9 => h9) rfl hin rfl (by decide +kernel) rfl rfl (Nat.le_of_ble_eq_true rfl) (ok_Ab_init.2.2.2.2.2 60 _ rfl).1 (fun H locs hP hD hS => ?_)
  have hP9 : va_P (dC, dI) cl_c (wo_Ab_init h0 ca (fun i => ([q7, q15, q23, q31, q40, q49, q58] : List Nat).getD i 0)) H := hP
  have hD9 : va_D A (wo_Ab_init h0 ca (fun i => ([q7, q15, q23, q31, q40, q49, q58] : List Nat).getD i 0)) := hD
  exact W.vret hx hb hr (fun t ht hW => ⟨⟨(fun i => ([q7, q15, q23, q31, q40, q49, q58] : List Nat).getD i 0), rfl, trivial, by rw [ht]; exact hP9, va_K.moved hW.alike hK, hD9⟩, hS.F ht⟩) hS.2.2 (ok_Ab_init.2.2.2.2.2 63 _ rfl).1
def wo_Se_init (h0 a1 : Nat) (ca : Nat → ClassId) (u : Nat → Nat) : va_W := [(h0, .inr (1, [.ref a1, .ref (u 6), .ref (u 0), .ref (u 1), .ref (u 2), .ref (u 3), .ref (u 4), .ref (u 5), .int 0, .int 0, .int 0])), ((u 0), .inl (ca 0, 24, .inl (fun _ => 0))), ((u 1), .inl (ca 0, 24, .inl (fun _ => 0))), ((u 2), .inl (ca 1, 24, .inr (.inl (fun _ => 0)))), ((u 3), .inl (ca 0, 10, .inl (fun _ => 0))), ((u 4), .inl (ca 0, 10, .inl (fun _ => 0))), ((u 5), .inl (ca 3, 10, .inl (fun _ => 0))), ((u 6), .inr (2, [.ref a1, .int 0, .int 0, .int 0]))]
set_option maxHeartbeats 4000000 in
set_option maxRecDepth 100000 in
theorem k_Se_init (l : Launch) (dC : Nat → ClassId) (dI : Nat → Nat → Nat) (ca : Nat → ClassId) (h0 a1 sz : Nat) : Met l (am_nm M_Se_init) (am_wm S_c M_Se_init) (am_rm M_Se_init) (va_Pc [.ref h0, .ref a1] (fun U => U.heap.size = sz ∧ va_P (dC, dI) cl_c [(h0, .inr (1, [.null, .null, .null, .null, .null, .null, .null, .null, .int 0, .int 0, .int 0]))] U.heap ∧ va_K (dC, dI) cl_c (am_tys ca) U ∧ (∀ w ∈ nw_, va_Nw w U) ∧ va_D (fun _ => True) [(h0, .inr (1, [.null, .null, .null, .null, .null, .null, .null, .null, .int 0, .int 0, .int 0]))])) (va_Qv (fun _ : Nat → Nat => True) (fun u t => va_P (dC, dI) cl_c (wo_Se_init h0 a1 ca u) t.heap ∧ va_K (dC, dI) cl_c (am_tys ca) t ∧ va_D (va_A [(h0, .inr (1, [.null, .null, .null, .null, .null, .null, .null, .null, .int 0, .int 0, .int 0]))] sz) (wo_Se_init h0 a1 ca u)) (va_A [(h0, .inr (1, [.null, .null, .null, .null, .null, .null, .null, .null, .int 0, .int 0, .int 0]))] sz)) 7 106 (va_A [(h0, .inr (1, [.null, .null, .null, .null, .null, .null, .null, .null, .int 0, .int 0, .int 0]))] sz) := by
  refine Met.ofW (cc := am_cc M_Se_init) (maxL := 2) (ret := none) (by decide +kernel) rfl ?_
  intro p e s m args below meth c s₁ B hml hv
  obtain ⟨rfl, hsz, hP, hK, hN, hD0⟩ := hv
  have hx := B.exec
  have hb := B.bytes
  have hr := B.returns
  have hts := atoms_spec (ws := am_wm S_c M_Se_init) B.pre
  have hown : s.vm.findClass R_Se = some m.cls := findClass_of_methodNamed B.named
  have hlocks := B.notSynchronized
  have hin : meth.name = "<init>" := (name_of_methodNamed B.named B.method).1
  subst hsz
  have hD := hD0.self (sz := s.heap.size)
  generalize hAe : va_A [(h0, .inr (1, [.null, .null, .null, .null, .null, .null, .null, .null, .int 0, .int 0, .int 0]))] s.heap.size = A at hD ⊢
  have hA : ∀ q : Nat, s.heap.size ≤ q → A q := fun q h => by rw [← hAe]; exact Or.inr h
  have hS : va_S A s.heap s.heap [] := va_S.rf
  have hl := lv_entry ([.ref h0, .ref a1]) (n := 2) (Nat.le_of_ble_eq_true rfl)
  rw [lg_entry_eq]
  generalize (lg_sl ([.ref h0, .ref a1]) ++ List.replicate (2 - (lg_sl ([.ref h0, .ref a1])).length) Slot.unset).toArray = ls at hl ⊢
  have hl : lv_has ls 2 [(0, .ref h0), (1, .ref a1)] := hl
  refine lv_aload_n hx hb (ok_Se_init.2.2.2.2.2 0 _ rfl).1 rfl (lv_at hl 0 rfl) ?_
  refine W.objInit hx hb hown (hts _ (List.mem_cons_of_mem _ (am_in_g (tl := lw_tbl) (h := 149) (w := .methodLink R_Se 3 objectInit) (by decide +kernel) rfl))) (hts _ (List.mem_cons_of_mem _ (am_in_g (tl := lw_tbl) (h := 142) (w := .instanceMethod objectInit) (by decide +kernel) rfl))) (hts _ (List.mem_cons_of_mem _ (am_in_g (tl := lw_tbl) (h := 143) (w := .code objectInit ⟨#[0xb1]⟩ 1 none) (by decide +kernel) rfl))) rfl (by rw [hml]; exact hl.1) rfl (ok_Se_init.2.2.2.2.2 1 _ rfl).1 (show 1 ≤ 2 from by decide) (show 12 ≤ 33 from by decide) ?_
  refine W.eq (g2 := F0 m 4 ls []) rfl ?_
  refine lv_aload_n hx hb (ok_Se_init.2.2.2.2.2 4 _ rfl).1 rfl (lv_at hl 0 rfl) ?_
  refine lv_bipush (v := 24) hx hb (ok_Se_init.2.2.2.2.2 5 _ rfl).1 (by decide) ?_
  refine kt_newa (atype := .int) (ty := .int) (t0 := 0) (N' := 24) (a0 := (24, .inl (fun _ => 0))) hx hb (hts _ (List.mem_cons_of_mem _ (am_in_g (tl := lw_tbl) (h := 184) (w := .arrayClass .int) (by decide +kernel) rfl))) rfl rfl hK hP hD hS hA (fun _ => rfl) (by decide) (by decide) (by decide) (show 1 ≤ 7 from by decide) (show 24 ≤ 106 from by decide) (ok_Se_init.2.2.2.2.2 7 _ rfl).1 (fun q7 H hP hD hS => ?_)
  refine va_putF (D := (dC, dI)) (ci := 1) (v := .ref q7) (ty := .array .int) (C := R_Se) (T := F_Se) (N := 11) hx hb hts (fun w h => List.mem_cons_of_mem _ (ly_Se w h)) t_Se ty_Se nm_Se hown hK hP hD hS 0 rfl rfl 2 (by decide) (hts _ (List.mem_cons_of_mem _ (am_in_g (tl := lw_tbl) (h := 189) (w := .fieldLink R_Se 9 "FrameFinder$Sections" "from" "[I") (by decide +kernel) rfl))) (fun _ h9 => h9) rfl hin rfl (by decide +kernel) rfl rfl (Nat.le_of_ble_eq_true rfl) (ok_Se_init.2.2.2.2.2 9 _ rfl).1 (fun H locs hP hD hS => ?_)
  refine lv_aload_n hx hb (ok_Se_init.2.2.2.2.2 12 _ rfl).1 rfl (lv_at hl 0 rfl) ?_
  refine lv_bipush (v := 24) hx hb (ok_Se_init.2.2.2.2.2 13 _ rfl).1 (by decide) ?_
  refine kt_newa (atype := .int) (ty := .int) (t0 := 0) (N' := 24) (a0 := (24, .inl (fun _ => 0))) hx hb (hts _ (List.mem_cons_of_mem _ (am_in_g (tl := lw_tbl) (h := 184) (w := .arrayClass .int) (by decide +kernel) rfl))) rfl rfl hK hP hD hS hA (fun _ => rfl) (by decide) (by decide) (by decide) (show 2 ≤ 7 from by decide) (show 48 ≤ 106 from by decide) (ok_Se_init.2.2.2.2.2 15 _ rfl).1 (fun q15 H hP hD hS => ?_)
  refine va_putF (D := (dC, dI)) (ci := 1) (v := .ref q15) (ty := .array .int) (C := R_Se) (T := F_Se) (N := 11) hx hb hts (fun w h => List.mem_cons_of_mem _ (ly_Se w h)) t_Se ty_Se nm_Se hown hK hP hD hS 0 rfl rfl 3 (by decide) (hts _ (List.mem_cons_of_mem _ (am_in_g (tl := lw_tbl) (h := 190) (w := .fieldLink R_Se 15 "FrameFinder$Sections" "to" "[I") (by decide +kernel) rfl))) (fun _ h9 => h9) rfl hin rfl (by decide +kernel) rfl rfl (Nat.le_of_ble_eq_true rfl) (ok_Se_init.2.2.2.2.2 17 _ rfl).1 (fun H locs hP hD hS => ?_)
  refine lv_aload_n hx hb (ok_Se_init.2.2.2.2.2 20 _ rfl).1 rfl (lv_at hl 0 rfl) ?_
  refine lv_bipush (v := 24) hx hb (ok_Se_init.2.2.2.2.2 21 _ rfl).1 (by decide) ?_
  refine kt_newa (atype := .long) (ty := .long) (t0 := 1) (N' := 24) (a0 := (24, .inr (.inl (fun _ => 0)))) hx hb (hts _ (List.mem_cons_of_mem _ (am_in_g (tl := lw_tbl) (h := 185) (w := .arrayClass .long) (by decide +kernel) rfl))) rfl rfl hK hP hD hS hA (fun _ => rfl) (by decide) (by decide) (by decide) (show 3 ≤ 7 from by decide) (show 72 ≤ 106 from by decide) (ok_Se_init.2.2.2.2.2 23 _ rfl).1 (fun q23 H hP hD hS => ?_)
  refine va_putF (D := (dC, dI)) (ci := 1) (v := .ref q23) (ty := .array .long) (C := R_Se) (T := F_Se) (N := 11) hx hb hts (fun w h => List.mem_cons_of_mem _ (ly_Se w h)) t_Se ty_Se nm_Se hown hK hP hD hS 0 rfl rfl 4 (by decide) (hts _ (List.mem_cons_of_mem _ (am_in_g (tl := lw_tbl) (h := 191) (w := .fieldLink R_Se 18 "FrameFinder$Sections" "namePlace" "[J") (by decide +kernel) rfl))) (fun _ h9 => h9) rfl hin rfl (by decide +kernel) rfl rfl (Nat.le_of_ble_eq_true rfl) (ok_Se_init.2.2.2.2.2 25 _ rfl).1 (fun H locs hP hD hS => ?_)
  refine lv_aload_n hx hb (ok_Se_init.2.2.2.2.2 28 _ rfl).1 rfl (lv_at hl 0 rfl) ?_
  refine lv_bipush (v := 10) hx hb (ok_Se_init.2.2.2.2.2 29 _ rfl).1 (by decide) ?_
  refine kt_newa (atype := .int) (ty := .int) (t0 := 0) (N' := 10) (a0 := (10, .inl (fun _ => 0))) hx hb (hts _ (List.mem_cons_of_mem _ (am_in_g (tl := lw_tbl) (h := 184) (w := .arrayClass .int) (by decide +kernel) rfl))) rfl rfl hK hP hD hS hA (fun _ => rfl) (by decide) (by decide) (by decide) (show 4 ≤ 7 from by decide) (show 82 ≤ 106 from by decide) (ok_Se_init.2.2.2.2.2 31 _ rfl).1 (fun q31 H hP hD hS => ?_)
  refine va_putF (D := (dC, dI)) (ci := 1) (v := .ref q31) (ty := .array .int) (C := R_Se) (T := F_Se) (N := 11) hx hb hts (fun w h => List.mem_cons_of_mem _ (ly_Se w h)) t_Se ty_Se nm_Se hown hK hP hD hS 0 rfl rfl 5 (by decide) (hts _ (List.mem_cons_of_mem _ (am_in_g (tl := lw_tbl) (h := 192) (w := .fieldLink R_Se 22 "FrameFinder$Sections" "chosenFrom" "[I") (by decide +kernel) rfl))) (fun _ h9 => h9) rfl hin rfl (by decide +kernel) rfl rfl (Nat.le_of_ble_eq_true rfl) (ok_Se_init.2.2.2.2.2 33 _ rfl).1 (fun H locs hP hD hS => ?_)
  refine lv_aload_n hx hb (ok_Se_init.2.2.2.2.2 36 _ rfl).1 rfl (lv_at hl 0 rfl) ?_
  refine lv_bipush (v := 10) hx hb (ok_Se_init.2.2.2.2.2 37 _ rfl).1 (by decide) ?_
  refine kt_newa (atype := .int) (ty := .int) (t0 := 0) (N' := 10) (a0 := (10, .inl (fun _ => 0))) hx hb (hts _ (List.mem_cons_of_mem _ (am_in_g (tl := lw_tbl) (h := 184) (w := .arrayClass .int) (by decide +kernel) rfl))) rfl rfl hK hP hD hS hA (fun _ => rfl) (by decide) (by decide) (by decide) (show 5 ≤ 7 from by decide) (show 92 ≤ 106 from by decide) (ok_Se_init.2.2.2.2.2 39 _ rfl).1 (fun q39 H hP hD hS => ?_)
  refine va_putF (D := (dC, dI)) (ci := 1) (v := .ref q39) (ty := .array .int) (C := R_Se) (T := F_Se) (N := 11) hx hb hts (fun w h => List.mem_cons_of_mem _ (ly_Se w h)) t_Se ty_Se nm_Se hown hK hP hD hS 0 rfl rfl 6 (by decide) (hts _ (List.mem_cons_of_mem _ (am_in_g (tl := lw_tbl) (h := 193) (w := .fieldLink R_Se 25 "FrameFinder$Sections" "chosenTo" "[I") (by decide +kernel) rfl))) (fun _ h9 => h9) rfl hin rfl (by decide +kernel) rfl rfl (Nat.le_of_ble_eq_true rfl) (ok_Se_init.2.2.2.2.2 41 _ rfl).1 (fun H locs hP hD hS => ?_)
  refine lv_aload_n hx hb (ok_Se_init.2.2.2.2.2 44 _ rfl).1 rfl (lv_at hl 0 rfl) ?_
  refine lv_bipush (v := 10) hx hb (ok_Se_init.2.2.2.2.2 45 _ rfl).1 (by decide) ?_
  refine kt_newa (atype := .boolean) (ty := .boolean) (t0 := 3) (N' := 10) (a0 := (10, .inl (fun _ => 0))) hx hb (hts _ (List.mem_cons_of_mem _ (am_in_g (tl := lw_tbl) (h := 186) (w := .arrayClass .boolean) (by decide +kernel) rfl))) rfl rfl hK hP hD hS hA (fun _ => rfl) (by decide) (by decide) (by decide) (show 6 ≤ 7 from by decide) (show 102 ≤ 106 from by decide) (ok_Se_init.2.2.2.2.2 47 _ rfl).1 (fun q47 H hP hD hS => ?_)
  refine va_putF (D := (dC, dI)) (ci := 1) (v := .ref q47) (ty := .array .boolean) (C := R_Se) (T := F_Se) (N := 11) hx hb hts (fun w h => List.mem_cons_of_mem _ (ly_Se w h)) t_Se ty_Se nm_Se hown hK hP hD hS 0 rfl rfl 7 (by decide) (hts _ (List.mem_cons_of_mem _ (am_in_g (tl := lw_tbl) (h := 194) (w := .fieldLink R_Se 28 "FrameFinder$Sections" "isChosen" "[Z") (by decide +kernel) rfl))) (fun _ h9 => h9) rfl hin rfl (by decide +kernel) rfl rfl (Nat.le_of_ble_eq_true rfl) (ok_Se_init.2.2.2.2.2 49 _ rfl).1 (fun H locs hP hD hS => ?_)
  refine lv_aload_n hx hb (ok_Se_init.2.2.2.2.2 52 _ rfl).1 rfl (lv_at hl 0 rfl) ?_
  refine lv_aload_n hx hb (ok_Se_init.2.2.2.2.2 53 _ rfl).1 rfl (lv_at hl 1 rfl) ?_
  refine va_putF (D := (dC, dI)) (ci := 1) (v := .ref a1) (ty := .array .byte) (C := R_Se) (T := F_Se) (N := 11) hx hb hts (fun w h => List.mem_cons_of_mem _ (ly_Se w h)) t_Se ty_Se nm_Se hown hK hP hD hS 0 rfl rfl 0 (by decide) (hts _ (List.mem_cons_of_mem _ (am_in_g (tl := lw_tbl) (h := 187) (w := .fieldLink R_Se 32 "FrameFinder$Sections" "image" "[B") (by decide +kernel) rfl))) (fun _ h9 => h9) rfl hin rfl (by decide +kernel) rfl rfl (Nat.le_of_ble_eq_true rfl) (ok_Se_init.2.2.2.2.2 54 _ rfl).1 (fun H locs hP hD hS => ?_)
  refine lv_aload_n hx hb (ok_Se_init.2.2.2.2.2 57 _ rfl).1 rfl (lv_at hl 0 rfl) ?_
  refine va_new (ci := 2) (fs := [.null, .int 0, .int 0, .int 0]) (C := R_Cu) (T := F_Cu) (N := 4) hx hb hts (fun w h => List.mem_cons_of_mem _ (ly_Cu w h)) t_Cu ty_Cu hown (hts _ (List.mem_cons_of_mem _ (am_in_g (tl := lw_tbl) (h := 150) (w := .classLink R_Se 36 R_Cu) (by decide +kernel) rfl))) (hts _ (List.mem_cons_of_mem _ (am_in_g (tl := lw_tbl) (h := 151) (w := .instantiable R_Cu 4) (by decide +kernel) rfl))) (hts _ (List.mem_cons_of_mem _ (am_in_g (tl := lw_tbl) (h := 116) (w := .initialized R_Cu) (by decide +kernel) rfl))) hK hP hD hS hA rfl (by decide) (show 7 ≤ 7 from by decide) (show 106 ≤ 106 from by decide) (ok_Se_init.2.2.2.2.2 58 _ rfl).1 (fun q58 H hP hD hS => ?_)
  refine lv_dup hx hb (ok_Se_init.2.2.2.2.2 61 _ rfl).1 rfl ?_
  refine lv_aload_n hx hb (ok_Se_init.2.2.2.2.2 62 _ rfl).1 rfl (lv_at hl 1 rfl) ?_
  have hPc := hP.sub (ws' := [(q58, .inr (2, [.null, .int 0, .int 0, .int 0]))]) [7] rfl
  have hDc := hD.sub (ws' := [(q58, .inr (2, [.null, .int 0, .int 0, .int 0]))]) [7] (by decide) rfl
  have hFc := va_free (wc := [(q58, .inr (2, [.null, .int 0, .int 0, .int 0]))]) hD hS hA [7] rfl
  have hgd : GoodIn (am_wm S_c M_Se_init) (am_wm S_c M_Cu_init) := kt_good sys_c (by rw [ht_c]; exact am_in_g (h := 154) (by decide +kernel) rfl)
  refine va_callv (va_runI (As := [.ref a1]) (rest := [.ref q58, .ref h0]) ⟨hx, hb, hml, hown, hts⟩ (k_Cu_init l dC dI ca q58 a1 H.size) (cwI 1 hts hgd rfl rfl rfl (hts _ (List.mem_cons_of_mem _ (am_in_g (tl := lw_tbl) (h := 116) (w := .initialized R_Cu) (by decide +kernel) rfl))) (hts _ (List.mem_cons_of_mem _ (am_in_g (tl := lw_tbl) (h := 152) (w := .methodLink R_Se 38 (am_nm M_Cu_init)) (by decide +kernel) rfl))) (hts _ (List.mem_cons_of_mem _ (am_in_g (tl := lw_tbl) (h := 153) (w := .instanceMethod (am_nm M_Cu_init)) (by decide +kernel) rfl))) rfl (by decide +kernel) ⟨(show 1 + 1 ≤ 2 from by decide), (show 8 + (2 + 11) + 12 ≤ 33 from by decide)⟩) ⟨fun a9 U g mk q => by obtain ⟨q0, q1, qP, qK, qN, qD⟩ := q; exact ⟨q0, q1, qP, va_K.moved (u := U) (U := U.calling g mk a9) (Vm.Alike.refl U.vm) qK, fun w hw => va_Nw.same (u := U) (U := U.calling g mk a9) (am_nest_tab ((List.mem_filter.mp hw).2)) rfl (qN w hw), qD⟩, fun U hU hW => ⟨rfl, by rw [hU], by rw [hU]; exact hPc, va_K.moved hW.alike hK, fun w hw => am_nest_warm ((List.mem_filter.mp hw).2) hW (hN w hw), hDc.weaken (fun _ _ _ _ => trivial)⟩⟩ rfl rfl hl.1 rfl (lv_room (Nat.le_of_ble_eq_true rfl)) (ok_Se_init.2.2.2.2.2 63 _ rfl).1 ⟨(show 7 ≤ 7 from by decide), (show 106 ≤ 106 from by decide)⟩) hS (fun q _ h => hFc q h) hFc (fun u63 t H1 locs ht hvm h5 hB hz1 hk1 hS => ?_)
  obtain ⟨hP1, hK1, hD1⟩ := hB
  rw [ht] at hP1
  obtain ⟨hP, hD⟩ := va_join (wr := [(h0, .inr (1, [.ref a1, .null, .ref q7, .ref q15, .ref q23, .ref q31, .ref q39, .ref q47, .int 0, .int 0, .int 0])), (q7, .inl (ca 0, 24, .inl (fun _ => 0))), (q15, .inl (ca 0, 24, .inl (fun _ => 0))), (q23, .inl (ca 1, 24, .inr (.inl (fun _ => 0)))), (q31, .inl (ca 0, 10, .inl (fun _ => 0))), (q39, .inl (ca 0, 10, .inl (fun _ => 0))), (q47, .inl (ca 3, 10, .inl (fun _ => 0)))]) (w1 := wo_Cu_init q58 a1 ca u63) hP hD [7] [0, 1, 2, 3, 4, 5, 6] rfl rfl (by decide) (by decide) hk1 hFc hP1 hD1
  generalize H1 = H at hP hS ⊢
  refine va_putF (D := (dC, dI)) (ci := 1) (v := .ref q58) (ty := .object "FrameFinder$Cursor") (C := R_Se) (T := F_Se) (N := 11) hx hb hts (fun w h => List.mem_cons_of_mem _ (ly_Se w h)) t_Se ty_Se nm_Se hown hK hP hD hS 0 rfl rfl 1 (by decide) (hts _ (List.mem_cons_of_mem _ (am_in_g (tl := lw_tbl) (h := 188) (w := .fieldLink R_Se 41 "FrameFinder$Sections" "cursor" "LFrameFinder$Cursor;") (by decide +kernel) rfl))) (fun _ h9 => h9) rfl hin rfl (by decide +kernel) rfl rfl (Nat.le_of_ble_eq_true rfl) (ok_Se_init.2.2.2.2.2 66 _ rfl).1 (fun H locs hP hD hS => ?_)
  have hP9 : va_P (dC, dI) cl_c (wo_Se_init h0 a1 ca (fun i => ([q7, q15, q23, q31, q39, q47, q58] : List Nat).getD i 0)) H := hP
  have hD9 : va_D A (wo_Se_init h0 a1 ca (fun i => ([q7, q15, q23, q31, q39, q47, q58] : List Nat).getD i 0)) := hD
  exact W.vret hx hb hr (fun t ht hW => ⟨⟨(fun i => ([q7, q15, q23, q31, q39, q47, q58] : List Nat).getD i 0), rfl, trivial, by rw [ht]; exact hP9, va_K.moved hW.alike hK, hD9⟩, hS.F ht⟩) hS.2.2 (ok_Se_init.2.2.2.2.2 69 _ rfl).1
