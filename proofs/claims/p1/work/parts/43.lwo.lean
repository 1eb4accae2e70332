/-! the law's open and find: they catch -/
def lw_Ao (ρ : Nat → Nat) (ao sz : Nat) : Nat → Prop := fun q => am_Ar S_c ρ sz q ∨ q = ao
def lw_Po (D : va_G) (ca : Nat → ClassId) (ρ : Nat → Nat) (ao : Nat) (as : List Value) (σ : am_S) (f : Nat → Int64) (sz : Nat) : Array Value → State → Prop := fun v U => v = as.toArray ∧ U.heap.size = sz ∧ va_P D (am_cl S_c) (am_ws (am_sh S_c) ca ρ (am_nw S_c) σ) U.heap ∧ va_D (fun _ => True) (am_ws (am_sh S_c) ca ρ (am_nw S_c) σ) ∧ U.heap[ao]? = some (vp_cell (ca 1) (1, .inr (.inl f))) ∧ (∀ k, k < am_nw S_c → ρ k ≠ ao) ∧ am_X0 S_c D ca ρ (lw_Ao ρ ao sz) U U.heap
def lw_Qo (D : va_G) (ca : Nat → ClassId) (ρ : Nat → Nat) (ao : Nat) (A : Nat → Prop) (Px : Option Value → am_S → Prop) (PxT : am_S → Prop) : Array Value → State → Outcome → State → Prop := fun _ st oc t =>
  (∃ (k : Int32) (σ' : am_S) (f' : Nat → Int64), oc = .returned (some (.int k)) ∧ ((k = 0 ∧ ∃ v : Int32, Px (some (.int v)) σ' ∧ f' 0 = v.toInt64) ∨ (k = 1 ∧ PxT σ')) ∧ va_P D (am_cl S_c) (am_ws (am_sh S_c) ca ρ (am_nw S_c) σ') t.heap ∧ t.heap[ao]? = some (vp_cell (ca 1) (1, .inr (.inl f')))) ∧ va_F A st t
theorem lw_fst {D : va_G} {cl : List vw_C} {w1 w2 : va_W} {H : Heap} (h : va_P D cl (w1 ++ w2) H) : va_P D cl w1 H := fun k q hk => h k q (by rw [List.getElem?_append_left (List.getElem?_eq_some_iff.mp hk).1]; exact hk)
theorem lw_one {D : va_G} {cl : List vw_C} {ao : Nat} {ca : Nat → ClassId} {f : Nat → Int64} {H : Heap} (h : H[ao]? = some (vp_cell (ca 1) (1, .inr (.inl f)))) : va_P D cl [(ao, .inl (ca 1, 1, .inr (.inl f)))] H := by
  intro k q hk
  have hz : k < 1 := (List.getElem?_eq_some_iff.mp hk).1
  rw [show k = 0 by omega] at hk
  cases hk
  exact h
theorem lw_D {S : am_Sy} {ca : Nat → ClassId} {ρ : Nat → Nat} {σ : am_S} {A : Nat → Prop} {ao : Nat} {e : va_E} (h : va_D A (am_ws (am_sh S) ca ρ (am_nw S) σ)) (ha : A ao) (hne : ∀ k, k < am_nw S → ρ k ≠ ao) : va_D A (am_ws (am_sh S) ca ρ (am_nw S) σ ++ [(ao, e)]) := by
  have h1 : va_D A [((ao, e) : Nat × va_E)] := by
    constructor
    · intro i j p q hi hj _
      have h1 : i < 1 := (List.getElem?_eq_some_iff.mp hi).1
      have h2 : j < 1 := (List.getElem?_eq_some_iff.mp hj).1
      omega
    · intro k q hk
      have hz : k < 1 := (List.getElem?_eq_some_iff.mp hk).1
      rw [show k = 0 by omega] at hk
      cases hk
      exact ha
  refine h.app h1 (fun i j p q hi hj => ?_)
  have hk1 : i < am_nw S := by
    have := (List.getElem?_eq_some_iff.mp hi).1
    rwa [am_ws_len] at this
  have hz : j < 1 := (List.getElem?_eq_some_iff.mp hj).1
  rw [show j = 0 by omega] at hj
  cases hj
  rw [am_ws_at hk1] at hi
  cases hi
  exact hne i hk1
theorem lw_nth (w : va_W) (x : Nat × va_E) : (w ++ [x])[w.length]? = some x := by simp
theorem lw_set (x y : Nat × va_E) : ∀ (w : va_W), (w ++ [x]).set w.length y = w ++ [y]
  | [] => rfl
  | a :: w => by simp
theorem lw_last {D : va_G} {cl : List vw_C} {w : va_W} {ao : Nat} {ca : Nat → ClassId} {f : Nat → Int64} {H : Heap} (h : va_P D cl (w ++ [(ao, .inl (ca 1, 1, .inr (.inl f)))]) H) : H[ao]? = some (vp_cell (ca 1) (1, .inr (.inl f))) := h w.length _ (lw_nth _ _)
def lo_open : List Cond := Cond.codeWith ⟨"FrameFinderLaw", "open", "(LFrameFinder;[J)I"⟩ method_3_code 3 (some .int) [(0, 8, 11, 13)] :: tw_
def lr_open : Room := { frames := (am_rm M_F_open).frames + 1, cells := 1, slots := 6, locals := 8 + (am_mx M_F_open + 11) + (am_rm M_F_open).locals }
theorem dopen_0 : decode method_3_code 0 = .ok (.aload_n 1, 1) := by decide +kernel
theorem dopen_1 : decode method_3_code 1 = .ok (.iconst 0, 1) := by decide +kernel
theorem dopen_2 : decode method_3_code 2 = .ok (.aload_n 0, 1) := by decide +kernel
theorem dopen_3 : decode method_3_code 3 = .ok (.invokevirtual 7, 3) := by decide +kernel
theorem dopen_6 : decode method_3_code 6 = .ok (.i2l, 1) := by decide +kernel
theorem dopen_7 : decode method_3_code 7 = .ok (.lastore, 1) := by decide +kernel
theorem dopen_8 : decode method_3_code 8 = .ok (.goto 6, 3) := by decide +kernel
theorem dopen_11 : decode method_3_code 11 = .ok (.astore_n 2, 1) := by decide +kernel
theorem dopen_12 : decode method_3_code 12 = .ok (.iconst 1, 1) := by decide +kernel
theorem dopen_13 : decode method_3_code 13 = .ok (.ireturn, 1) := by decide +kernel
theorem dopen_14 : decode method_3_code 14 = .ok (.iconst 0, 1) := by decide +kernel
theorem dopen_15 : decode method_3_code 15 = .ok (.ireturn, 1) := by decide +kernel
set_option maxHeartbeats 4000000 in
set_option maxRecDepth 100000 in
theorem lw_mopen (l : Launch) (hl9 : l.stackTraces = false) (D : va_G) (ca : Nat → ClassId) (ρ : Nat → Nat) (ao : Nat) (σ : am_S) (f : Nat → Int64) (sz : Nat) {Px : Option Value → am_S → Prop} {PxT : am_S → Prop} (hM : am_MtT S_c M_F_open (.ref 0 :: []) σ Px PxT "java/lang/IllegalArgumentException") (hPx : ∀ r σ', Px r σ' → ∃ v : Int32, r = some (.int v)) :
    Met l ⟨"FrameFinderLaw", "open", "(LFrameFinder;[J)I"⟩ lo_open lr_open (lw_Po D ca ρ ao [.ref (ρ 0), .ref ao] σ f sz) (lw_Qo D ca ρ ao (lw_Ao ρ ao sz) Px PxT) 1 6 (lw_Ao ρ ao sz) := by
  refine va_MetW (by decide +kernel) rfl ?_
  intro p e s m args below meth c s₁ B hml hv
  obtain ⟨rfl, hsz, hP, hD, hao, hne, hX⟩ := hv
  have hx := B.exec
  have hb := B.bytes
  have hr := B.returns
  have hts := atoms_spec (ws := lo_open) B.pre
  have hown : s.vm.findClass "FrameFinderLaw" = some m.cls := findClass_of_methodNamed B.named
  have htw : ∀ w ∈ tw_, w.before _ s = true := fun w h => hts w (List.mem_cons_of_mem _ h)
  subst hsz
  obtain ⟨m9, meth9, c9, n1, n2, n3, -, -, n4, -⟩ := Cond.codeWith_spec (hts _ List.mem_cons_self)
  cases n1.symm.trans B.named
  cases n2.symm.trans B.method
  cases n3.symm.trans (Stand.of_body B).code
  obtain ⟨xt, htab, x1, x2, x3, x4⟩ : ∃ x : ExceptionTableEntry, c.exceptionTable.toList = [x] ∧ x.startPc = 0 ∧ x.endPc = 8 ∧ x.handlerPc = 11 ∧ x.catchType = 13 := by
    cases h9 : c.exceptionTable.toList with
    | nil => rw [h9] at n4; cases n4
    | cons x t =>
      rw [h9] at n4
      cases t with
      | nil => simp only [List.map_cons, List.map_nil, List.cons.injEq, Prod.mk.injEq, and_true] at n4; exact ⟨x, rfl, n4.1, n4.2.1, n4.2.2.1, n4.2.2.2⟩
      | cons z t => simp at n4
  have hA : ∀ q, s.heap.size ≤ q → lw_Ao ρ ao s.heap.size q := fun q h => Or.inl (Or.inr h)
  have hAo : lw_Ao ρ ao s.heap.size ao := Or.inr rfl
  have hDA : va_D (lw_Ao ρ ao s.heap.size) (am_ws (am_sh S_c) ca ρ (am_nw S_c) σ) := (am_D_ar (sz := s.heap.size) hD).weaken (fun _ _ _ h => Or.inl h)
  generalize lw_Ao ρ ao s.heap.size = A at hA hAo hDA hX ⊢
  have hR : am_R (am_cl S_c) (am_sh S_c) (am_nw S_c) D ca ρ A s σ s.heap [] := ⟨hP, hDA, va_S.rf⟩
  have hl := lv_entry ([.ref (ρ 0), .ref ao]) (n := 3) (Nat.le_of_ble_eq_true rfl)
  rw [lg_entry_eq]
  generalize (lg_sl ([.ref (ρ 0), .ref ao]) ++ List.replicate (3 - (lg_sl ([.ref (ρ 0), .ref ao])).length) Slot.unset).toArray = ls at hl ⊢
  have hl : lv_has ls 3 [(0, .ref (ρ 0)), (1, .ref ao)] := hl
  refine lv_aload_n hx hb dopen_0 rfl (lv_at hl 1 rfl) ?_
  refine lv_iconst (v := 0) hx hb dopen_1 (by decide) ?_
  refine lv_aload_n hx hb dopen_2 rfl (lv_at hl 0 rfl) ?_
  refine wt_callT (n := 0) (S := S_c) (M2 := M_F_open) (as := []) (k := 0) (rest := [.int 0, .ref ao]) sys_c hl9 hM hx hb hown (by rw [ht_c]; exact htw) (htw _ (am_in_g (tl := lw_tbl) (h := 664) (w := .methodLink "FrameFinderLaw" 7 (am_nm M_F_open)) (by decide +kernel) rfl)) (htw _ (am_in_g (tl := lw_tbl) (h := 665) (w := .instanceMethod (am_nm M_F_open)) (by decide +kernel) rfl)) (htw _ (am_in_g (tl := lw_tbl) (h := 666) (w := .selects (am_nm M_F_open).cls (am_nm M_F_open) (am_nm M_F_open)) (by decide +kernel) rfl)) (by rw [ht_c]; exact (am_in_g (tl := lw_tbl) (h := 667) (w := .code (am_nm M_F_open) (am_cc M_F_open) (am_mx M_F_open) (am_rt M_F_open)) (by decide +kernel) rfl)) (htw _ (am_in_g (tl := lw_tbl) (h := 114) (w := .initialized (am_nm M_F_open).cls) (by decide +kernel) rfl)) ⟨by decide +kernel, by decide +kernel⟩ (show _ = some 0 from by decide +kernel) (Nat.le_refl _) (Nat.le_refl _) (by decide +kernel) (by decide +kernel) (hl.1.trans hml.symm) (Nat.le_of_ble_eq_true rfl) hX hA hR (by decide +kernel) rfl rfl rfl dopen_3 (fun r σ' H1 locs1 hp hR1 hz1 hk1 => ?_) (fun x9 σ' H1 locs1 ce hp hR1 hce hcv hcl hz1 hk1 T hT X => ?_)
  · obtain ⟨v, rfl⟩ := hPx r σ' hp
    have hao1 : H1[ao]? = some (vp_cell (ca 1) (1, .inr (.inl f))) := by
      rw [hk1 ao (Array.getElem?_eq_some_iff.mp hao).1 (by
        rintro (⟨k, hk, e9⟩ | e9)
        · exact hne k hk e9.symm
        · have := (Array.getElem?_eq_some_iff.mp hao).1
          omega)]
      exact hao
    refine lv_i2l (v := v.toInt64) hx hb dopen_6 rfl ?_
    refine va_last (n := 1) (f := f) (ws := am_ws (am_sh S_c) ca ρ (am_nw S_c) σ' ++ [(ao, .inl (ca 1, 1, .inr (.inl f)))]) hx hb hX.1 (hR1.1.app (lw_one hao1)) (lw_D hR1.2.1 hAo hne) hR1.2.2 (am_ws (am_sh S_c) ca ρ (am_nw S_c) σ').length 1 (lw_nth _ _) rfl (by unfold vp_in; decide) dopen_7 (fun H2 locs2 hP2 hD2 hS2 => ?_)
    rw [lw_set] at hP2
    refine lv_goto (tgt := 14) hx hb dopen_8 rfl ?_
    refine lv_iconst (v := 0) hx hb dopen_14 (by decide) ?_
    refine W.widen (k := 1) (n := 6) (by decide) (by decide) ?_
    exact W.iret hx hb hr (fun t ht hW => ⟨⟨0, σ', vp_updL f (0 : Int32).toNatClampNeg v.toInt64, rfl, Or.inl ⟨rfl, v, hp, by rw [show (0 : Int32).toNatClampNeg = 0 from by decide]; simp [vp_updL]⟩, by rw [ht]; exact lw_fst hP2, by rw [ht]; exact lw_last hP2⟩, hS2.F ht⟩) hS2.2.2 dopen_15 B.notSynchronized
  · have hao1 : H1[ao]? = some (vp_cell (ca 1) (1, .inr (.inl f))) := by
      rw [hk1 ao (Array.getElem?_eq_some_iff.mp hao).1 (by
        rintro (⟨k, hk, e9⟩ | e9)
        · exact hne k hk e9.symm
        · have := (Array.getElem?_eq_some_iff.mp hao).1
          omega)]
      exact hao
    obtain ⟨vm', X2, hgo⟩ := wt_catch X (a := x9) (g := F0 m 3 ls [.int 0, .ref ao]) rfl (idx := 13) (hpc := 11) (C := "java/lang/IllegalArgumentException") hown (htw _ (am_in_g (tl := lw_tbl) (h := 663) (w := .classLink "FrameFinderLaw" 13 "java/lang/IllegalArgumentException") (by decide +kernel) rfl)) (va_Nw.use (am_nest_tab rfl) (hX.2.1 _ (by rw [hn_c]; exact am_in_n (tl := lw_tbl) (h := 1108) (w := .castable "java/lang/IllegalArgumentException" "java/lang/IllegalArgumentException") (by decide +kernel) rfl))) htab (by simp [covers, F0, x1, x2]) x4 (by decide) x3 (by rw [hT]; exact hce) hcv hcl
    have hW9 : W p l e (headSpec lo_open lr_open).room s m ([.ref (ρ 0), .ref ao]).toArray below meth c H1 locs1 1 6 (MQ below (lw_Qo D ca ρ ao A Px PxT) ([.ref (ρ 0), .ref ao]).toArray s 1 6 A) (F0 m 11 ls [.ref x9]) := by
      refine lv_astore_n (i := 2) (lv' := (2, .ref x9) :: [(0, .ref (ρ 0)), (1, .ref ao)]) hx hb dopen_11 rfl hl (by decide) rfl (fun ls hl => ?_)
      refine lv_iconst (v := 1) hx hb dopen_12 (by decide) ?_
      exact W.iret hx hb hr (fun t ht hW => ⟨⟨1, σ', f, rfl, Or.inr ⟨rfl, hp⟩, by rw [ht]; exact hR1.1, by rw [ht]; exact hao1⟩, hR1.2.2.F ht⟩) hR1.2.2.2.2 dopen_13 B.notSynchronized
    obtain ⟨t, a1, b1⟩ := hW9 (T.setVm vm') hT X2
    exact ⟨t, hgo t a1, b1⟩
def lo_find : List Cond := Cond.codeWith ⟨"FrameFinderLaw", "find", "(LFrameFinder;J[J)I"⟩ method_4_code 5 (some .int) [(0, 9, 12, 19)] :: tw_
def lr_find : Room := { frames := (am_rm M_F_find).frames + 1, cells := 1, slots := 6, locals := 8 + (am_mx M_F_find + 11) + (am_rm M_F_find).locals }
theorem dfind_0 : decode method_4_code 0 = .ok (.aload_n 3, 1) := by decide +kernel
theorem dfind_1 : decode method_4_code 1 = .ok (.iconst 0, 1) := by decide +kernel
theorem dfind_2 : decode method_4_code 2 = .ok (.aload_n 0, 1) := by decide +kernel
theorem dfind_3 : decode method_4_code 3 = .ok (.lload_n 1, 1) := by decide +kernel
theorem dfind_4 : decode method_4_code 4 = .ok (.invokevirtual 15, 3) := by decide +kernel
theorem dfind_7 : decode method_4_code 7 = .ok (.i2l, 1) := by decide +kernel
theorem dfind_8 : decode method_4_code 8 = .ok (.lastore, 1) := by decide +kernel
theorem dfind_9 : decode method_4_code 9 = .ok (.goto 7, 3) := by decide +kernel
theorem dfind_12 : decode method_4_code 12 = .ok (.astore 4, 2) := by decide +kernel
theorem dfind_14 : decode method_4_code 14 = .ok (.iconst 1, 1) := by decide +kernel
theorem dfind_15 : decode method_4_code 15 = .ok (.ireturn, 1) := by decide +kernel
theorem dfind_16 : decode method_4_code 16 = .ok (.iconst 0, 1) := by decide +kernel
theorem dfind_17 : decode method_4_code 17 = .ok (.ireturn, 1) := by decide +kernel
set_option maxHeartbeats 4000000 in
set_option maxRecDepth 100000 in
theorem lw_mfind (l : Launch) (hl9 : l.stackTraces = false) (D : va_G) (ca : Nat → ClassId) (ρ : Nat → Nat) (ao : Nat) (σ : am_S) (f : Nat → Int64) (sz : Nat) (x : Int64) {Px : Option Value → am_S → Prop} {PxT : am_S → Prop} (hM : am_MtT S_c M_F_find (.ref 0 :: [.long x]) σ Px PxT "java/lang/IllegalStateException") (hPx : ∀ r σ', Px r σ' → ∃ v : Int32, r = some (.int v)) :
    Met l ⟨"FrameFinderLaw", "find", "(LFrameFinder;J[J)I"⟩ lo_find lr_find (lw_Po D ca ρ ao [.ref (ρ 0), .long x, .ref ao] σ f sz) (lw_Qo D ca ρ ao (lw_Ao ρ ao sz) Px PxT) 1 6 (lw_Ao ρ ao sz) := by
  refine va_MetW (by decide +kernel) rfl ?_
  intro p e s m args below meth c s₁ B hml hv
  obtain ⟨rfl, hsz, hP, hD, hao, hne, hX⟩ := hv
  have hx := B.exec
  have hb := B.bytes
  have hr := B.returns
  have hts := atoms_spec (ws := lo_find) B.pre
  have hown : s.vm.findClass "FrameFinderLaw" = some m.cls := findClass_of_methodNamed B.named
  have htw : ∀ w ∈ tw_, w.before _ s = true := fun w h => hts w (List.mem_cons_of_mem _ h)
  subst hsz
  obtain ⟨m9, meth9, c9, n1, n2, n3, -, -, n4, -⟩ := Cond.codeWith_spec (hts _ List.mem_cons_self)
  cases n1.symm.trans B.named
  cases n2.symm.trans B.method
  cases n3.symm.trans (Stand.of_body B).code
  obtain ⟨xt, htab, x1, x2, x3, x4⟩ : ∃ x : ExceptionTableEntry, c.exceptionTable.toList = [x] ∧ x.startPc = 0 ∧ x.endPc = 9 ∧ x.handlerPc = 12 ∧ x.catchType = 19 := by
    cases h9 : c.exceptionTable.toList with
    | nil => rw [h9] at n4; cases n4
    | cons x t =>
      rw [h9] at n4
      cases t with
      | nil => simp only [List.map_cons, List.map_nil, List.cons.injEq, Prod.mk.injEq, and_true] at n4; exact ⟨x, rfl, n4.1, n4.2.1, n4.2.2.1, n4.2.2.2⟩
      | cons z t => simp at n4
  have hA : ∀ q, s.heap.size ≤ q → lw_Ao ρ ao s.heap.size q := fun q h => Or.inl (Or.inr h)
  have hAo : lw_Ao ρ ao s.heap.size ao := Or.inr rfl
  have hDA : va_D (lw_Ao ρ ao s.heap.size) (am_ws (am_sh S_c) ca ρ (am_nw S_c) σ) := (am_D_ar (sz := s.heap.size) hD).weaken (fun _ _ _ h => Or.inl h)
  generalize lw_Ao ρ ao s.heap.size = A at hA hAo hDA hX ⊢
  have hR : am_R (am_cl S_c) (am_sh S_c) (am_nw S_c) D ca ρ A s σ s.heap [] := ⟨hP, hDA, va_S.rf⟩
  have hl := lv_entry ([.ref (ρ 0), .long x, .ref ao]) (n := 5) (Nat.le_of_ble_eq_true rfl)
  rw [lg_entry_eq]
  generalize (lg_sl ([.ref (ρ 0), .long x, .ref ao]) ++ List.replicate (5 - (lg_sl ([.ref (ρ 0), .long x, .ref ao])).length) Slot.unset).toArray = ls at hl ⊢
  have hl : lv_has ls 5 [(0, .ref (ρ 0)), (1, .long x), (3, .ref ao)] := hl
  refine lv_aload_n hx hb dfind_0 rfl (lv_at hl 2 rfl) ?_
  refine lv_iconst (v := 0) hx hb dfind_1 (by decide) ?_
  refine lv_aload_n hx hb dfind_2 rfl (lv_at hl 0 rfl) ?_
  refine lv_lload_n hx hb dfind_3 rfl (lv_at hl 1 rfl) ?_
  refine wt_callT (n := 0) (S := S_c) (M2 := M_F_find) (as := [.long x]) (k := 0) (rest := [.int 0, .ref ao]) sys_c hl9 hM hx hb hown (by rw [ht_c]; exact htw) (htw _ (am_in_g (tl := lw_tbl) (h := 1172) (w := .methodLink "FrameFinderLaw" 15 (am_nm M_F_find)) (by decide +kernel) rfl)) (htw _ (am_in_g (tl := lw_tbl) (h := 1173) (w := .instanceMethod (am_nm M_F_find)) (by decide +kernel) rfl)) (htw _ (am_in_g (tl := lw_tbl) (h := 1174) (w := .selects (am_nm M_F_find).cls (am_nm M_F_find) (am_nm M_F_find)) (by decide +kernel) rfl)) (by rw [ht_c]; exact (am_in_g (tl := lw_tbl) (h := 1175) (w := .code (am_nm M_F_find) (am_cc M_F_find) (am_mx M_F_find) (am_rt M_F_find)) (by decide +kernel) rfl)) (htw _ (am_in_g (tl := lw_tbl) (h := 114) (w := .initialized (am_nm M_F_find).cls) (by decide +kernel) rfl)) ⟨by decide +kernel, by decide +kernel⟩ (show _ = some 1 from by decide +kernel) (Nat.le_refl _) (Nat.le_refl _) (by decide +kernel) (by decide +kernel) (hl.1.trans hml.symm) (Nat.le_of_ble_eq_true rfl) hX hA hR (by decide +kernel) rfl rfl rfl dfind_4 (fun r σ' H1 locs1 hp hR1 hz1 hk1 => ?_) (fun x9 σ' H1 locs1 ce hp hR1 hce hcv hcl hz1 hk1 T hT X => ?_)
  · obtain ⟨v, rfl⟩ := hPx r σ' hp
    have hao1 : H1[ao]? = some (vp_cell (ca 1) (1, .inr (.inl f))) := by
      rw [hk1 ao (Array.getElem?_eq_some_iff.mp hao).1 (by
        rintro (⟨k, hk, e9⟩ | e9)
        · exact hne k hk e9.symm
        · have := (Array.getElem?_eq_some_iff.mp hao).1
          omega)]
      exact hao
    refine lv_i2l (v := v.toInt64) hx hb dfind_7 rfl ?_
    refine va_last (n := 1) (f := f) (ws := am_ws (am_sh S_c) ca ρ (am_nw S_c) σ' ++ [(ao, .inl (ca 1, 1, .inr (.inl f)))]) hx hb hX.1 (hR1.1.app (lw_one hao1)) (lw_D hR1.2.1 hAo hne) hR1.2.2 (am_ws (am_sh S_c) ca ρ (am_nw S_c) σ').length 1 (lw_nth _ _) rfl (by unfold vp_in; decide) dfind_8 (fun H2 locs2 hP2 hD2 hS2 => ?_)
    rw [lw_set] at hP2
    refine lv_goto (tgt := 16) hx hb dfind_9 rfl ?_
    refine lv_iconst (v := 0) hx hb dfind_16 (by decide) ?_
    refine W.widen (k := 1) (n := 6) (by decide) (by decide) ?_
    exact W.iret hx hb hr (fun t ht hW => ⟨⟨0, σ', vp_updL f (0 : Int32).toNatClampNeg v.toInt64, rfl, Or.inl ⟨rfl, v, hp, by rw [show (0 : Int32).toNatClampNeg = 0 from by decide]; simp [vp_updL]⟩, by rw [ht]; exact lw_fst hP2, by rw [ht]; exact lw_last hP2⟩, hS2.F ht⟩) hS2.2.2 dfind_17 B.notSynchronized
  · have hao1 : H1[ao]? = some (vp_cell (ca 1) (1, .inr (.inl f))) := by
      rw [hk1 ao (Array.getElem?_eq_some_iff.mp hao).1 (by
        rintro (⟨k, hk, e9⟩ | e9)
        · exact hne k hk e9.symm
        · have := (Array.getElem?_eq_some_iff.mp hao).1
          omega)]
      exact hao
    obtain ⟨vm', X2, hgo⟩ := wt_catch X (a := x9) (g := F0 m 4 ls [.int 0, .ref ao]) rfl (idx := 19) (hpc := 12) (C := "java/lang/IllegalStateException") hown (htw _ (am_in_g (tl := lw_tbl) (h := 1171) (w := .classLink "FrameFinderLaw" 19 "java/lang/IllegalStateException") (by decide +kernel) rfl)) (va_Nw.use (am_nest_tab rfl) (hX.2.1 _ (by rw [hn_c]; exact am_in_n (tl := lw_tbl) (h := 1178) (w := .castable "java/lang/IllegalStateException" "java/lang/IllegalStateException") (by decide +kernel) rfl))) htab (by simp [covers, F0, x1, x2]) x4 (by decide) x3 (by rw [hT]; exact hce) hcv hcl
    have hW9 : W p l e (headSpec lo_find lr_find).room s m ([.ref (ρ 0), .long x, .ref ao]).toArray below meth c H1 locs1 1 6 (MQ below (lw_Qo D ca ρ ao A Px PxT) ([.ref (ρ 0), .long x, .ref ao]).toArray s 1 6 A) (F0 m 12 ls [.ref x9]) := by
      refine lv_astore (lv' := (4, .ref x9) :: [(0, .ref (ρ 0)), (1, .long x), (3, .ref ao)]) hx hb dfind_12 hl (by decide) rfl (fun ls hl => ?_)
      refine lv_iconst (v := 1) hx hb dfind_14 (by decide) ?_
      exact W.iret hx hb hr (fun t ht hW => ⟨⟨1, σ', f, rfl, Or.inr ⟨rfl, hp⟩, by rw [ht]; exact hR1.1, by rw [ht]; exact hao1⟩, hR1.2.2.F ht⟩) hR1.2.2.2.2 dfind_15 B.notSynchronized
    obtain ⟨t, a1, b1⟩ := hW9 (T.setVm vm') hT X2
    exact ⟨t, hgo t a1, b1⟩
