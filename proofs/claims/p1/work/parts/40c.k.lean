def wo_Cu_init (h0 a1 : Nat) (ca : Nat → ClassId) (u : Nat → Nat) : va_W := [(h0, .inr (2, [.ref a1, .int 0, .int 0, .int 0]))]
set_option maxHeartbeats 4000000 in
set_option maxRecDepth 100000 in
theorem k_Cu_init (l : Launch) (dC : Nat → ClassId) (dI : Nat → Nat → Nat) (ca : Nat → ClassId) (h0 a1 sz : Nat) : Met l (am_nm M_Cu_init) (am_wm S_c M_Cu_init) (am_rm M_Cu_init) (kt_Pc (dC, dI) cl_c ca [.ref a1] h0 2 [.null, .int 0, .int 0, .int 0] sz) (kt_Qc (dC, dI) cl_c ca h0 2 [.null, .int 0, .int 0, .int 0] sz (wo_Cu_init h0 a1 ca)) 0 0 (va_A [(h0, .inr (2, [.null, .int 0, .int 0, .int 0]))] sz) := by
  refine Met.ofW (cc := am_cc M_Cu_init) (maxL := 2) (ret := none) (by decide +kernel) rfl ?_
  intro p e s m args below meth c s₁ B hml hv
  obtain ⟨rfl, hsz, hP, hK, hN, hD0⟩ := hv
  have hx := B.exec
  have hb := B.bytes
  have hr := B.returns
  have hts := atoms_spec (ws := am_wm S_c M_Cu_init) B.pre
  have hown : s.vm.findClass R_Cu = some m.cls := findClass_of_methodNamed B.named
  have hin : meth.name = "<init>" := (name_of_methodNamed B.named B.method).1
  have htw : ∀ w ∈ tw_, w.before _ s = true := fun w h => hts w (List.mem_cons_of_mem _ h)
  have E : kt_E (am_cc M_Cu_init) R_Cu p s m _ meth c := ⟨hx, hb, hown, htw, hin⟩
  subst hsz
  have hD := hD0.self (sz := s.heap.size)
  have hA : ∀ q : Nat, s.heap.size ≤ q → va_A [(h0, .inr (2, [.null, .int 0, .int 0, .int 0]))] s.heap.size q := fun q h => Or.inr h
  unfold kt_Qc
  generalize va_A [(h0, .inr (2, [.null, .int 0, .int 0, .int 0]))] s.heap.size = A at hD hA ⊢
  have hS : va_S A s.heap s.heap [] := va_S.rf
  have hl := lv_entry ([.ref h0, .ref a1]) (n := 2) (Nat.le_of_ble_eq_true rfl)
  rw [lg_entry_eq]
  generalize (lg_sl ([.ref h0, .ref a1]) ++ List.replicate (2 - (lg_sl ([.ref h0, .ref a1])).length) Slot.unset).toArray = ls at hl ⊢
  have hl : lv_has ls 2 [(0, .ref h0), (1, .ref a1)] := hl
  refine lv_aload_n hx hb (ok_Cu_init.2.2.2.2.2 0 _ rfl).1 rfl (lv_at hl 0 rfl) ?_
  refine W.objInit hx hb hown (htw _ kw_155) (htw _ kw_142) (htw _ kw_143) rfl (by rw [hml]; exact hl.1) rfl (ok_Cu_init.2.2.2.2.2 1 _ rfl).1 (Nat.le_of_ble_eq_true rfl) (show 12 ≤ 12 from by decide) ?_
  refine W.eq (g2 := F0 m 4 ls []) rfl ?_
  refine lv_aload_n hx hb (ok_Cu_init.2.2.2.2.2 4 _ rfl).1 rfl (lv_at hl 0 rfl) ?_
  refine lv_aload_n hx hb (ok_Cu_init.2.2.2.2.2 5 _ rfl).1 rfl (lv_at hl 1 rfl) ?_
  refine kt_put (v := .ref a1) (fs' := [.ref a1, .int 0, .int 0, .int 0]) E kf_Cu_0 hK hP hD hS (ok_Cu_init.2.2.2.2.2 6 _ rfl).1 rfl rfl (Nat.le_of_ble_eq_true rfl) rfl (fun H locs hP hD hS => ?_)
  have hP9 : va_P (dC, dI) cl_c (wo_Cu_init h0 a1 ca (fun i => ([] : List Nat).getD i 0)) H := hP
  have hD9 : va_D A (wo_Cu_init h0 a1 ca (fun i => ([] : List Nat).getD i 0)) := hD
  exact W.vret hx hb hr (fun t ht hW => ⟨⟨(fun i => ([] : List Nat).getD i 0), rfl, trivial, by rw [ht]; exact hP9, va_K.moved hW.alike hK, hD9⟩, hS.F ht⟩) hS.2.2 (ok_Cu_init.2.2.2.2.2 9 _ rfl).1
def wo_Ab_init (h0 : Nat) (ca : Nat → ClassId) (u : Nat → Nat) : va_W := [(h0, .inr (5, [.ref (u 0), .ref (u 1), .ref (u 2), .ref (u 3), .ref (u 4), .ref (u 5), .ref (u 6), .int 0])), ((u 0), .inl (ca 1, 40, kt_zL)), ((u 1), .inl (ca 1, 40, kt_zL)), ((u 2), .inl (ca 3, 40, kt_zI)), ((u 3), .inl (ca 0, 40, kt_zI)), ((u 4), .inl (ca 1, 480, kt_zL)), ((u 5), .inl (ca 0, 480, kt_zI)), ((u 6), .inl (ca 1, 480, kt_zL))]
set_option maxHeartbeats 4000000 in
set_option maxRecDepth 100000 in
theorem k_Ab_init (l : Launch) (dC : Nat → ClassId) (dI : Nat → Nat → Nat) (ca : Nat → ClassId) (h0 sz : Nat) : Met l (am_nm M_Ab_init) (am_wm S_c M_Ab_init) (am_rm M_Ab_init) (kt_Pc (dC, dI) cl_c ca [] h0 5 [.null, .null, .null, .null, .null, .null, .null, .int 0] sz) (kt_Qc (dC, dI) cl_c ca h0 5 [.null, .null, .null, .null, .null, .null, .null, .int 0] sz (wo_Ab_init h0 ca)) 7 1600 (va_A [(h0, .inr (5, [.null, .null, .null, .null, .null, .null, .null, .int 0]))] sz) := by
  refine Met.ofW (cc := am_cc M_Ab_init) (maxL := 1) (ret := none) (by decide +kernel) rfl ?_
  intro p e s m args below meth c s₁ B hml hv
  obtain ⟨rfl, hsz, hP, hK, hN, hD0⟩ := hv
  have hx := B.exec
  have hb := B.bytes
  have hr := B.returns
  have hts := atoms_spec (ws := am_wm S_c M_Ab_init) B.pre
  have hown : s.vm.findClass R_Ab = some m.cls := findClass_of_methodNamed B.named
  have hin : meth.name = "<init>" := (name_of_methodNamed B.named B.method).1
  have htw : ∀ w ∈ tw_, w.before _ s = true := fun w h => hts w (List.mem_cons_of_mem _ h)
  have E : kt_E (am_cc M_Ab_init) R_Ab p s m _ meth c := ⟨hx, hb, hown, htw, hin⟩
  subst hsz
  have hD := hD0.self (sz := s.heap.size)
  have hA : ∀ q : Nat, s.heap.size ≤ q → va_A [(h0, .inr (5, [.null, .null, .null, .null, .null, .null, .null, .int 0]))] s.heap.size q := fun q h => Or.inr h
  unfold kt_Qc
  generalize va_A [(h0, .inr (5, [.null, .null, .null, .null, .null, .null, .null, .int 0]))] s.heap.size = A at hD hA ⊢
  have hS : va_S A s.heap s.heap [] := va_S.rf
  have hl := lv_entry ([.ref h0]) (n := 1) (Nat.le_of_ble_eq_true rfl)
  rw [lg_entry_eq]
  generalize (lg_sl ([.ref h0]) ++ List.replicate (1 - (lg_sl ([.ref h0])).length) Slot.unset).toArray = ls at hl ⊢
  have hl : lv_has ls 1 [(0, .ref h0)] := hl
  refine lv_aload_n hx hb (ok_Ab_init.2.2.2.2.2 0 _ rfl).1 rfl (lv_at hl 0 rfl) ?_
  refine W.objInit hx hb hown (htw _ kw_298) (htw _ kw_142) (htw _ kw_143) rfl (by rw [hml]; exact hl.1) rfl (ok_Ab_init.2.2.2.2.2 1 _ rfl).1 (Nat.le_of_ble_eq_true rfl) (show 12 ≤ 12 from by decide) ?_
  refine W.eq (g2 := F0 m 4 ls []) rfl ?_
  refine kt_fa (fs' := fun q => [.ref q, .null, .null, .null, .null, .null, .null, .int 0]) (ws' := fun q => [(q, .inl (ca 1, 40, kt_zL))]) (cells' := 1) (slots' := 40) E (kt_Zl (n := 40) (N' := 40) rfl) kf_Ab_0 kw_185 hK hP hD hS hA (lv_at hl 0 rfl) (ok_Ab_init.2.2.2.2.2 4 _ rfl).1 (kt_pb (ok_Ab_init.2.2.2.2.2 5 _ rfl).1 (by decide)) (ok_Ab_init.2.2.2.2.2 7 _ rfl).1 (ok_Ab_init.2.2.2.2.2 9 _ rfl).1 (Nat.le_of_ble_eq_true rfl) rfl rfl (Nat.le_of_ble_eq_true rfl) (Nat.le_of_ble_eq_true rfl) (fun _ => rfl) (fun _ => rfl) (fun q7 H locs hP hD hS => ?_)
  refine kt_fa (fs' := fun q => [.ref q7, .ref q, .null, .null, .null, .null, .null, .int 0]) (ws' := fun q => [(q7, .inl (ca 1, 40, kt_zL)), (q, .inl (ca 1, 40, kt_zL))]) (cells' := 2) (slots' := 80) E (kt_Zl (n := 40) (N' := 40) rfl) kf_Ab_1 kw_185 hK hP hD hS hA (lv_at hl 0 rfl) (ok_Ab_init.2.2.2.2.2 12 _ rfl).1 (kt_pb (ok_Ab_init.2.2.2.2.2 13 _ rfl).1 (by decide)) (ok_Ab_init.2.2.2.2.2 15 _ rfl).1 (ok_Ab_init.2.2.2.2.2 17 _ rfl).1 (Nat.le_of_ble_eq_true rfl) rfl rfl (Nat.le_of_ble_eq_true rfl) (Nat.le_of_ble_eq_true rfl) (fun _ => rfl) (fun _ => rfl) (fun q15 H locs hP hD hS => ?_)
  refine kt_fa (fs' := fun q => [.ref q7, .ref q15, .ref q, .null, .null, .null, .null, .int 0]) (ws' := fun q => [(q7, .inl (ca 1, 40, kt_zL)), (q15, .inl (ca 1, 40, kt_zL)), (q, .inl (ca 3, 40, kt_zI))]) (cells' := 3) (slots' := 120) E (kt_Zz (n := 40) (N' := 40) rfl) kf_Ab_2 kw_186 hK hP hD hS hA (lv_at hl 0 rfl) (ok_Ab_init.2.2.2.2.2 20 _ rfl).1 (kt_pb (ok_Ab_init.2.2.2.2.2 21 _ rfl).1 (by decide)) (ok_Ab_init.2.2.2.2.2 23 _ rfl).1 (ok_Ab_init.2.2.2.2.2 25 _ rfl).1 (Nat.le_of_ble_eq_true rfl) rfl rfl (Nat.le_of_ble_eq_true rfl) (Nat.le_of_ble_eq_true rfl) (fun _ => rfl) (fun _ => rfl) (fun q23 H locs hP hD hS => ?_)
  refine kt_fa (fs' := fun q => [.ref q7, .ref q15, .ref q23, .ref q, .null, .null, .null, .int 0]) (ws' := fun q => [(q7, .inl (ca 1, 40, kt_zL)), (q15, .inl (ca 1, 40, kt_zL)), (q23, .inl (ca 3, 40, kt_zI)), (q, .inl (ca 0, 40, kt_zI))]) (cells' := 4) (slots' := 160) E (kt_Zi (n := 40) (N' := 40) rfl) kf_Ab_3 kw_184 hK hP hD hS hA (lv_at hl 0 rfl) (ok_Ab_init.2.2.2.2.2 28 _ rfl).1 (kt_pb (ok_Ab_init.2.2.2.2.2 29 _ rfl).1 (by decide)) (ok_Ab_init.2.2.2.2.2 31 _ rfl).1 (ok_Ab_init.2.2.2.2.2 33 _ rfl).1 (Nat.le_of_ble_eq_true rfl) rfl rfl (Nat.le_of_ble_eq_true rfl) (Nat.le_of_ble_eq_true rfl) (fun _ => rfl) (fun _ => rfl) (fun q31 H locs hP hD hS => ?_)
  refine kt_fa (fs' := fun q => [.ref q7, .ref q15, .ref q23, .ref q31, .ref q, .null, .null, .int 0]) (ws' := fun q => [(q7, .inl (ca 1, 40, kt_zL)), (q15, .inl (ca 1, 40, kt_zL)), (q23, .inl (ca 3, 40, kt_zI)), (q31, .inl (ca 0, 40, kt_zI)), (q, .inl (ca 1, 480, kt_zL))]) (cells' := 5) (slots' := 640) E (kt_Zl (n := 480) (N' := 480) rfl) kf_Ab_4 kw_185 hK hP hD hS hA (lv_at hl 0 rfl) (ok_Ab_init.2.2.2.2.2 36 _ rfl).1 (kt_ps (ok_Ab_init.2.2.2.2.2 37 _ rfl).1 (by decide)) (ok_Ab_init.2.2.2.2.2 40 _ rfl).1 (ok_Ab_init.2.2.2.2.2 42 _ rfl).1 (Nat.le_of_ble_eq_true rfl) rfl rfl (Nat.le_of_ble_eq_true rfl) (Nat.le_of_ble_eq_true rfl) (fun _ => rfl) (fun _ => rfl) (fun q40 H locs hP hD hS => ?_)
  refine kt_fa (fs' := fun q => [.ref q7, .ref q15, .ref q23, .ref q31, .ref q40, .ref q, .null, .int 0]) (ws' := fun q => [(q7, .inl (ca 1, 40, kt_zL)), (q15, .inl (ca 1, 40, kt_zL)), (q23, .inl (ca 3, 40, kt_zI)), (q31, .inl (ca 0, 40, kt_zI)), (q40, .inl (ca 1, 480, kt_zL)), (q, .inl (ca 0, 480, kt_zI))]) (cells' := 6) (slots' := 1120) E (kt_Zi (n := 480) (N' := 480) rfl) kf_Ab_5 kw_184 hK hP hD hS hA (lv_at hl 0 rfl) (ok_Ab_init.2.2.2.2.2 45 _ rfl).1 (kt_ps (ok_Ab_init.2.2.2.2.2 46 _ rfl).1 (by decide)) (ok_Ab_init.2.2.2.2.2 49 _ rfl).1 (ok_Ab_init.2.2.2.2.2 51 _ rfl).1 (Nat.le_of_ble_eq_true rfl) rfl rfl (Nat.le_of_ble_eq_true rfl) (Nat.le_of_ble_eq_true rfl) (fun _ => rfl) (fun _ => rfl) (fun q49 H locs hP hD hS => ?_)
  refine kt_fa (fs' := fun q => [.ref q7, .ref q15, .ref q23, .ref q31, .ref q40, .ref q49, .ref q, .int 0]) (ws' := fun q => [(q7, .inl (ca 1, 40, kt_zL)), (q15, .inl (ca 1, 40, kt_zL)), (q23, .inl (ca 3, 40, kt_zI)), (q31, .inl (ca 0, 40, kt_zI)), (q40, .inl (ca 1, 480, kt_zL)), (q49, .inl (ca 0, 480, kt_zI)), (q, .inl (ca 1, 480, kt_zL))]) (cells' := 7) (slots' := 1600) E (kt_Zl (n := 480) (N' := 480) rfl) kf_Ab_6 kw_185 hK hP hD hS hA (lv_at hl 0 rfl) (ok_Ab_init.2.2.2.2.2 54 _ rfl).1 (kt_ps (ok_Ab_init.2.2.2.2.2 55 _ rfl).1 (by decide)) (ok_Ab_init.2.2.2.2.2 58 _ rfl).1 (ok_Ab_init.2.2.2.2.2 60 _ rfl).1 (Nat.le_of_ble_eq_true rfl) rfl rfl (Nat.le_of_ble_eq_true rfl) (Nat.le_of_ble_eq_true rfl) (fun _ => rfl) (fun _ => rfl) (fun q58 H locs hP hD hS => ?_)
  have hP9 : va_P (dC, dI) cl_c (wo_Ab_init h0 ca (fun i => ([q7, q15, q23, q31, q40, q49, q58] : List Nat).getD i 0)) H := hP
  have hD9 : va_D A (wo_Ab_init h0 ca (fun i => ([q7, q15, q23, q31, q40, q49, q58] : List Nat).getD i 0)) := hD
  exact W.vret hx hb hr (fun t ht hW => ⟨⟨(fun i => ([q7, q15, q23, q31, q40, q49, q58] : List Nat).getD i 0), rfl, trivial, by rw [ht]; exact hP9, va_K.moved hW.alike hK, hD9⟩, hS.F ht⟩) hS.2.2 (ok_Ab_init.2.2.2.2.2 63 _ rfl).1
def wo_Se_init (h0 a1 : Nat) (ca : Nat → ClassId) (u : Nat → Nat) : va_W := [(h0, .inr (1, [.ref a1, .ref (u 6), .ref (u 0), .ref (u 1), .ref (u 2), .ref (u 3), .ref (u 4), .ref (u 5), .int 0, .int 0, .int 0])), ((u 0), .inl (ca 0, 24, kt_zI)), ((u 1), .inl (ca 0, 24, kt_zI)), ((u 2), .inl (ca 1, 24, kt_zL)), ((u 3), .inl (ca 0, 10, kt_zI)), ((u 4), .inl (ca 0, 10, kt_zI)), ((u 5), .inl (ca 3, 10, kt_zI)), ((u 6), .inr (2, [.ref a1, .int 0, .int 0, .int 0]))]
set_option maxHeartbeats 4000000 in
set_option maxRecDepth 100000 in
theorem k_Se_init (l : Launch) (dC : Nat → ClassId) (dI : Nat → Nat → Nat) (ca : Nat → ClassId) (h0 a1 sz : Nat) : Met l (am_nm M_Se_init) (am_wm S_c M_Se_init) (am_rm M_Se_init) (kt_Pc (dC, dI) cl_c ca [.ref a1] h0 1 [.null, .null, .null, .null, .null, .null, .null, .null, .int 0, .int 0, .int 0] sz) (kt_Qc (dC, dI) cl_c ca h0 1 [.null, .null, .null, .null, .null, .null, .null, .null, .int 0, .int 0, .int 0] sz (wo_Se_init h0 a1 ca)) 7 106 (va_A [(h0, .inr (1, [.null, .null, .null, .null, .null, .null, .null, .null, .int 0, .int 0, .int 0]))] sz) := by
  refine Met.ofW (cc := am_cc M_Se_init) (maxL := 2) (ret := none) (by decide +kernel) rfl ?_
  intro p e s m args below meth c s₁ B hml hv
  obtain ⟨rfl, hsz, hP, hK, hN, hD0⟩ := hv
  have hx := B.exec
  have hb := B.bytes
  have hr := B.returns
  have hts := atoms_spec (ws := am_wm S_c M_Se_init) B.pre
  have hown : s.vm.findClass R_Se = some m.cls := findClass_of_methodNamed B.named
  have hin : meth.name = "<init>" := (name_of_methodNamed B.named B.method).1
  have htw : ∀ w ∈ tw_, w.before _ s = true := fun w h => hts w (List.mem_cons_of_mem _ h)
  have E : kt_E (am_cc M_Se_init) R_Se p s m _ meth c := ⟨hx, hb, hown, htw, hin⟩
  subst hsz
  have hD := hD0.self (sz := s.heap.size)
  have hA : ∀ q : Nat, s.heap.size ≤ q → va_A [(h0, .inr (1, [.null, .null, .null, .null, .null, .null, .null, .null, .int 0, .int 0, .int 0]))] s.heap.size q := fun q h => Or.inr h
  unfold kt_Qc
  generalize va_A [(h0, .inr (1, [.null, .null, .null, .null, .null, .null, .null, .null, .int 0, .int 0, .int 0]))] s.heap.size = A at hD hA ⊢
  have hS : va_S A s.heap s.heap [] := va_S.rf
  have hl := lv_entry ([.ref h0, .ref a1]) (n := 2) (Nat.le_of_ble_eq_true rfl)
  rw [lg_entry_eq]
  generalize (lg_sl ([.ref h0, .ref a1]) ++ List.replicate (2 - (lg_sl ([.ref h0, .ref a1])).length) Slot.unset).toArray = ls at hl ⊢
  have hl : lv_has ls 2 [(0, .ref h0), (1, .ref a1)] := hl
  refine lv_aload_n hx hb (ok_Se_init.2.2.2.2.2 0 _ rfl).1 rfl (lv_at hl 0 rfl) ?_
  refine W.objInit hx hb hown (htw _ kw_149) (htw _ kw_142) (htw _ kw_143) rfl (by rw [hml]; exact hl.1) rfl (ok_Se_init.2.2.2.2.2 1 _ rfl).1 (Nat.le_of_ble_eq_true rfl) (show 12 ≤ 33 from by decide) ?_
  refine W.eq (g2 := F0 m 4 ls []) rfl ?_
  refine kt_fa (fs' := fun q => [.null, .null, .ref q, .null, .null, .null, .null, .null, .int 0, .int 0, .int 0]) (ws' := fun q => [(q, .inl (ca 0, 24, kt_zI))]) (cells' := 1) (slots' := 24) E (kt_Zi (n := 24) (N' := 24) rfl) kf_Se_2 kw_184 hK hP hD hS hA (lv_at hl 0 rfl) (ok_Se_init.2.2.2.2.2 4 _ rfl).1 (kt_pb (ok_Se_init.2.2.2.2.2 5 _ rfl).1 (by decide)) (ok_Se_init.2.2.2.2.2 7 _ rfl).1 (ok_Se_init.2.2.2.2.2 9 _ rfl).1 (Nat.le_of_ble_eq_true rfl) rfl rfl (Nat.le_of_ble_eq_true rfl) (Nat.le_of_ble_eq_true rfl) (fun _ => rfl) (fun _ => rfl) (fun q7 H locs hP hD hS => ?_)
  refine kt_fa (fs' := fun q => [.null, .null, .ref q7, .ref q, .null, .null, .null, .null, .int 0, .int 0, .int 0]) (ws' := fun q => [(q7, .inl (ca 0, 24, kt_zI)), (q, .inl (ca 0, 24, kt_zI))]) (cells' := 2) (slots' := 48) E (kt_Zi (n := 24) (N' := 24) rfl) kf_Se_3 kw_184 hK hP hD hS hA (lv_at hl 0 rfl) (ok_Se_init.2.2.2.2.2 12 _ rfl).1 (kt_pb (ok_Se_init.2.2.2.2.2 13 _ rfl).1 (by decide)) (ok_Se_init.2.2.2.2.2 15 _ rfl).1 (ok_Se_init.2.2.2.2.2 17 _ rfl).1 (Nat.le_of_ble_eq_true rfl) rfl rfl (Nat.le_of_ble_eq_true rfl) (Nat.le_of_ble_eq_true rfl) (fun _ => rfl) (fun _ => rfl) (fun q15 H locs hP hD hS => ?_)
  refine kt_fa (fs' := fun q => [.null, .null, .ref q7, .ref q15, .ref q, .null, .null, .null, .int 0, .int 0, .int 0]) (ws' := fun q => [(q7, .inl (ca 0, 24, kt_zI)), (q15, .inl (ca 0, 24, kt_zI)), (q, .inl (ca 1, 24, kt_zL))]) (cells' := 3) (slots' := 72) E (kt_Zl (n := 24) (N' := 24) rfl) kf_Se_4 kw_185 hK hP hD hS hA (lv_at hl 0 rfl) (ok_Se_init.2.2.2.2.2 20 _ rfl).1 (kt_pb (ok_Se_init.2.2.2.2.2 21 _ rfl).1 (by decide)) (ok_Se_init.2.2.2.2.2 23 _ rfl).1 (ok_Se_init.2.2.2.2.2 25 _ rfl).1 (Nat.le_of_ble_eq_true rfl) rfl rfl (Nat.le_of_ble_eq_true rfl) (Nat.le_of_ble_eq_true rfl) (fun _ => rfl) (fun _ => rfl) (fun q23 H locs hP hD hS => ?_)
  refine kt_fa (fs' := fun q => [.null, .null, .ref q7, .ref q15, .ref q23, .ref q, .null, .null, .int 0, .int 0, .int 0]) (ws' := fun q => [(q7, .inl (ca 0, 24, kt_zI)), (q15, .inl (ca 0, 24, kt_zI)), (q23, .inl (ca 1, 24, kt_zL)), (q, .inl (ca 0, 10, kt_zI))]) (cells' := 4) (slots' := 82) E (kt_Zi (n := 10) (N' := 10) rfl) kf_Se_5 kw_184 hK hP hD hS hA (lv_at hl 0 rfl) (ok_Se_init.2.2.2.2.2 28 _ rfl).1 (kt_pb (ok_Se_init.2.2.2.2.2 29 _ rfl).1 (by decide)) (ok_Se_init.2.2.2.2.2 31 _ rfl).1 (ok_Se_init.2.2.2.2.2 33 _ rfl).1 (Nat.le_of_ble_eq_true rfl) rfl rfl (Nat.le_of_ble_eq_true rfl) (Nat.le_of_ble_eq_true rfl) (fun _ => rfl) (fun _ => rfl) (fun q31 H locs hP hD hS => ?_)
  refine kt_fa (fs' := fun q => [.null, .null, .ref q7, .ref q15, .ref q23, .ref q31, .ref q, .null, .int 0, .int 0, .int 0]) (ws' := fun q => [(q7, .inl (ca 0, 24, kt_zI)), (q15, .inl (ca 0, 24, kt_zI)), (q23, .inl (ca 1, 24, kt_zL)), (q31, .inl (ca 0, 10, kt_zI)), (q, .inl (ca 0, 10, kt_zI))]) (cells' := 5) (slots' := 92) E (kt_Zi (n := 10) (N' := 10) rfl) kf_Se_6 kw_184 hK hP hD hS hA (lv_at hl 0 rfl) (ok_Se_init.2.2.2.2.2 36 _ rfl).1 (kt_pb (ok_Se_init.2.2.2.2.2 37 _ rfl).1 (by decide)) (ok_Se_init.2.2.2.2.2 39 _ rfl).1 (ok_Se_init.2.2.2.2.2 41 _ rfl).1 (Nat.le_of_ble_eq_true rfl) rfl rfl (Nat.le_of_ble_eq_true rfl) (Nat.le_of_ble_eq_true rfl) (fun _ => rfl) (fun _ => rfl) (fun q39 H locs hP hD hS => ?_)
  refine kt_fa (fs' := fun q => [.null, .null, .ref q7, .ref q15, .ref q23, .ref q31, .ref q39, .ref q, .int 0, .int 0, .int 0]) (ws' := fun q => [(q7, .inl (ca 0, 24, kt_zI)), (q15, .inl (ca 0, 24, kt_zI)), (q23, .inl (ca 1, 24, kt_zL)), (q31, .inl (ca 0, 10, kt_zI)), (q39, .inl (ca 0, 10, kt_zI)), (q, .inl (ca 3, 10, kt_zI))]) (cells' := 6) (slots' := 102) E (kt_Zz (n := 10) (N' := 10) rfl) kf_Se_7 kw_186 hK hP hD hS hA (lv_at hl 0 rfl) (ok_Se_init.2.2.2.2.2 44 _ rfl).1 (kt_pb (ok_Se_init.2.2.2.2.2 45 _ rfl).1 (by decide)) (ok_Se_init.2.2.2.2.2 47 _ rfl).1 (ok_Se_init.2.2.2.2.2 49 _ rfl).1 (Nat.le_of_ble_eq_true rfl) rfl rfl (Nat.le_of_ble_eq_true rfl) (Nat.le_of_ble_eq_true rfl) (fun _ => rfl) (fun _ => rfl) (fun q47 H locs hP hD hS => ?_)
  refine lv_aload_n hx hb (ok_Se_init.2.2.2.2.2 52 _ rfl).1 rfl (lv_at hl 0 rfl) ?_
  refine lv_aload_n hx hb (ok_Se_init.2.2.2.2.2 53 _ rfl).1 rfl (lv_at hl 1 rfl) ?_
  refine kt_put (v := .ref a1) (fs' := [.ref a1, .null, .ref q7, .ref q15, .ref q23, .ref q31, .ref q39, .ref q47, .int 0, .int 0, .int 0]) E kf_Se_0 hK hP hD hS (ok_Se_init.2.2.2.2.2 54 _ rfl).1 rfl rfl (Nat.le_of_ble_eq_true rfl) rfl (fun H locs hP hD hS => ?_)
  refine lv_aload_n hx hb (ok_Se_init.2.2.2.2.2 57 _ rfl).1 rfl (lv_at hl 0 rfl) ?_
  refine kt_new (ci := 2) (fs := [.null, .int 0, .int 0, .int 0]) (cells' := 7) (slots' := 106) E ck_Cu rfl kw_150 kw_151 kw_116 t_Cu ty_Cu (by decide) hK hP hD hS hA rfl rfl (Nat.le_of_ble_eq_true rfl) (Nat.le_of_ble_eq_true rfl) (ok_Se_init.2.2.2.2.2 58 _ rfl).1 (fun q58 H hP hD hS => ?_)
  refine lv_dup hx hb (ok_Se_init.2.2.2.2.2 61 _ rfl).1 rfl ?_
  refine lv_aload_n hx hb (ok_Se_init.2.2.2.2.2 62 _ rfl).1 rfl (lv_at hl 1 rfl) ?_
  refine kt_call (ws := [(h0, .inr (1, [.ref a1, .null, .ref q7, .ref q15, .ref q23, .ref q31, .ref q39, .ref q47, .int 0, .int 0, .int 0])), (q7, .inl (ca 0, 24, kt_zI)), (q15, .inl (ca 0, 24, kt_zI)), (q23, .inl (ca 1, 24, kt_zL)), (q31, .inl (ca 0, 10, kt_zI)), (q39, .inl (ca 0, 10, kt_zI)), (q47, .inl (ca 3, 10, kt_zI))]) (wo := wo_Cu_init q58 a1 ca) (cells' := 7) (slots' := 106) (fun hp => va_runI (As := [.ref a1]) (rest := [.ref q58, .ref h0]) ⟨hx, hb, hml, hown, hts⟩ (k_Cu_init l dC dI ca q58 a1 H.size) (cwI 1 hts (kt_good sys_c kg_Cu_init) rfl rfl rfl (htw _ kw_116) (htw _ kw_152) (htw _ kw_153) rfl kd_Cu_init ⟨(Nat.le_of_ble_eq_true rfl), (Nat.le_of_ble_eq_true rfl)⟩) hp rfl rfl hl.1 rfl (lv_room (Nat.le_of_ble_eq_true rfl)) (ok_Se_init.2.2.2.2.2 63 _ rfl).1 ⟨(Nat.le_of_ble_eq_true rfl), (Nat.le_of_ble_eq_true rfl)⟩) hK hN hP hD hS hA rfl rfl (fun u63 H locs hP hD hS => ?_)
  have hP : va_P (dC, dI) cl_c [(h0, .inr (1, [.ref a1, .null, .ref q7, .ref q15, .ref q23, .ref q31, .ref q39, .ref q47, .int 0, .int 0, .int 0])), (q7, .inl (ca 0, 24, kt_zI)), (q15, .inl (ca 0, 24, kt_zI)), (q23, .inl (ca 1, 24, kt_zL)), (q31, .inl (ca 0, 10, kt_zI)), (q39, .inl (ca 0, 10, kt_zI)), (q47, .inl (ca 3, 10, kt_zI)), (q58, .inr (2, [.ref a1, .int 0, .int 0, .int 0]))] H := hP
  have hD : va_D A [(h0, .inr (1, [.ref a1, .null, .ref q7, .ref q15, .ref q23, .ref q31, .ref q39, .ref q47, .int 0, .int 0, .int 0])), (q7, .inl (ca 0, 24, kt_zI)), (q15, .inl (ca 0, 24, kt_zI)), (q23, .inl (ca 1, 24, kt_zL)), (q31, .inl (ca 0, 10, kt_zI)), (q39, .inl (ca 0, 10, kt_zI)), (q47, .inl (ca 3, 10, kt_zI)), (q58, .inr (2, [.ref a1, .int 0, .int 0, .int 0]))] := hD
  refine kt_put (v := .ref q58) (fs' := [.ref a1, .ref q58, .ref q7, .ref q15, .ref q23, .ref q31, .ref q39, .ref q47, .int 0, .int 0, .int 0]) E kf_Se_1 hK hP hD hS (ok_Se_init.2.2.2.2.2 66 _ rfl).1 rfl rfl (Nat.le_of_ble_eq_true rfl) rfl (fun H locs hP hD hS => ?_)
  have hP9 : va_P (dC, dI) cl_c (wo_Se_init h0 a1 ca (fun i => ([q7, q15, q23, q31, q39, q47, q58] : List Nat).getD i 0)) H := hP
  have hD9 : va_D A (wo_Se_init h0 a1 ca (fun i => ([q7, q15, q23, q31, q39, q47, q58] : List Nat).getD i 0)) := hD
  exact W.vret hx hb hr (fun t ht hW => ⟨⟨(fun i => ([q7, q15, q23, q31, q39, q47, q58] : List Nat).getD i 0), rfl, trivial, by rw [ht]; exact hP9, va_K.moved hW.alike hK, hD9⟩, hS.F ht⟩) hS.2.2 (ok_Se_init.2.2.2.2.2 69 _ rfl).1
