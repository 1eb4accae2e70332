def wo_Sy_init (h0 a1 a2 : Nat) (ca : Nat → ClassId) (u : Nat → Nat) : va_W := [(h0, .inr (10, [.ref a2, .ref (u 4), .ref (u 0), .ref (u 1), .ref (u 2), .ref (u 3), .int 0])), ((u 0), .inl (ca 0, 60, kt_zI)), ((u 1), .inl (ca 3, 60, kt_zI)), ((u 2), .inl (ca 1, 60, kt_zL)), ((u 3), .inl (ca 1, 60, kt_zL)), ((u 4), .inr (2, [.ref a1, .int 0, .int 0, .int 0]))]
set_option maxHeartbeats 4000000 in
set_option maxRecDepth 100000 in
theorem k_Sy_init (l : Launch) (dC : Nat → ClassId) (dI : Nat → Nat → Nat) (ca : Nat → ClassId) (h0 a1 a2 sz : Nat) : Met l (am_nm M_Sy_init) (am_wm S_c M_Sy_init) (am_rm M_Sy_init) (kt_Pc (dC, dI) cl_c ca [.ref a1, .ref a2] h0 10 [.null, .null, .null, .null, .null, .null, .int 0] sz) (kt_Qc (dC, dI) cl_c ca h0 10 [.null, .null, .null, .null, .null, .null, .int 0] sz (wo_Sy_init h0 a1 a2 ca)) 5 244 (va_A [(h0, .inr (10, [.null, .null, .null, .null, .null, .null, .int 0]))] sz) := by
  refine Met.ofW (cc := am_cc M_Sy_init) (maxL := 3) (ret := none) (by decide +kernel) rfl ?_
  intro p e s m args below meth c s₁ B hml hv
  obtain ⟨rfl, hsz, hP, hK, hN, hD0⟩ := hv
  have hx := B.exec
  have hb := B.bytes
  have hr := B.returns
  have hts := atoms_spec (ws := am_wm S_c M_Sy_init) B.pre
  have hown : s.vm.findClass R_Sy = some m.cls := findClass_of_methodNamed B.named
  have hin : meth.name = "<init>" := (name_of_methodNamed B.named B.method).1
  have htw : ∀ w ∈ tw_, w.before _ s = true := fun w h => hts w (List.mem_cons_of_mem _ h)
  have E : kt_E (am_cc M_Sy_init) R_Sy p s m _ meth c := ⟨hx, hb, hown, htw, hin⟩
  subst hsz
  have hD := hD0.self (sz := s.heap.size)
  have hA : ∀ q : Nat, s.heap.size ≤ q → va_A [(h0, .inr (10, [.null, .null, .null, .null, .null, .null, .int 0]))] s.heap.size q := fun q h => Or.inr h
  unfold kt_Qc
  generalize va_A [(h0, .inr (10, [.null, .null, .null, .null, .null, .null, .int 0]))] s.heap.size = A at hD hA ⊢
  have hS : va_S A s.heap s.heap [] := va_S.rf
  have hl := lv_entry ([.ref h0, .ref a1, .ref a2]) (n := 3) (Nat.le_of_ble_eq_true rfl)
  rw [lg_entry_eq]
  generalize (lg_sl ([.ref h0, .ref a1, .ref a2]) ++ List.replicate (3 - (lg_sl ([.ref h0, .ref a1, .ref a2])).length) Slot.unset).toArray = ls at hl ⊢
  have hl : lv_has ls 3 [(0, .ref h0), (1, .ref a1), (2, .ref a2)] := hl
  refine lv_aload_n hx hb (ok_Sy_init.2.2.2.2.2 0 _ rfl).1 rfl (lv_at hl 0 rfl) ?_
  refine W.objInit hx hb hown (htw _ kw_504) (htw _ kw_142) (htw _ kw_143) rfl (by rw [hml]; exact hl.1) rfl (ok_Sy_init.2.2.2.2.2 1 _ rfl).1 (Nat.le_of_ble_eq_true rfl) (show 12 ≤ 33 from by decide) ?_
  refine W.eq (g2 := F0 m 4 ls []) rfl ?_
  refine kt_fa (fs' := fun q => [.null, .null, .ref q, .null, .null, .null, .int 0]) (ws' := fun q => [(q, .inl (ca 0, 60, kt_zI))]) (cells' := 1) (slots' := 60) E (kt_Zi (n := 60) (N' := 60) rfl) kf_Sy_2 kw_184 hK hP hD hS hA (lv_at hl 0 rfl) (ok_Sy_init.2.2.2.2.2 4 _ rfl).1 (kt_pb (ok_Sy_init.2.2.2.2.2 5 _ rfl).1 (by decide)) (ok_Sy_init.2.2.2.2.2 7 _ rfl).1 (ok_Sy_init.2.2.2.2.2 9 _ rfl).1 (Nat.le_of_ble_eq_true rfl) rfl rfl (Nat.le_of_ble_eq_true rfl) (Nat.le_of_ble_eq_true rfl) (fun _ => rfl) (fun _ => rfl) (fun q7 H locs hP hD hS => ?_)
  refine kt_fa (fs' := fun q => [.null, .null, .ref q7, .ref q, .null, .null, .int 0]) (ws' := fun q => [(q7, .inl (ca 0, 60, kt_zI)), (q, .inl (ca 3, 60, kt_zI))]) (cells' := 2) (slots' := 120) E (kt_Zz (n := 60) (N' := 60) rfl) kf_Sy_3 kw_186 hK hP hD hS hA (lv_at hl 0 rfl) (ok_Sy_init.2.2.2.2.2 12 _ rfl).1 (kt_pb (ok_Sy_init.2.2.2.2.2 13 _ rfl).1 (by decide)) (ok_Sy_init.2.2.2.2.2 15 _ rfl).1 (ok_Sy_init.2.2.2.2.2 17 _ rfl).1 (Nat.le_of_ble_eq_true rfl) rfl rfl (Nat.le_of_ble_eq_true rfl) (Nat.le_of_ble_eq_true rfl) (fun _ => rfl) (fun _ => rfl) (fun q15 H locs hP hD hS => ?_)
  refine kt_fa (fs' := fun q => [.null, .null, .ref q7, .ref q15, .ref q, .null, .int 0]) (ws' := fun q => [(q7, .inl (ca 0, 60, kt_zI)), (q15, .inl (ca 3, 60, kt_zI)), (q, .inl (ca 1, 60, kt_zL))]) (cells' := 3) (slots' := 180) E (kt_Zl (n := 60) (N' := 60) rfl) kf_Sy_4 kw_185 hK hP hD hS hA (lv_at hl 0 rfl) (ok_Sy_init.2.2.2.2.2 20 _ rfl).1 (kt_pb (ok_Sy_init.2.2.2.2.2 21 _ rfl).1 (by decide)) (ok_Sy_init.2.2.2.2.2 23 _ rfl).1 (ok_Sy_init.2.2.2.2.2 25 _ rfl).1 (Nat.le_of_ble_eq_true rfl) rfl rfl (Nat.le_of_ble_eq_true rfl) (Nat.le_of_ble_eq_true rfl) (fun _ => rfl) (fun _ => rfl) (fun q23 H locs hP hD hS => ?_)
  refine kt_fa (fs' := fun q => [.null, .null, .ref q7, .ref q15, .ref q23, .ref q, .int 0]) (ws' := fun q => [(q7, .inl (ca 0, 60, kt_zI)), (q15, .inl (ca 3, 60, kt_zI)), (q23, .inl (ca 1, 60, kt_zL)), (q, .inl (ca 1, 60, kt_zL))]) (cells' := 4) (slots' := 240) E (kt_Zl (n := 60) (N' := 60) rfl) kf_Sy_5 kw_185 hK hP hD hS hA (lv_at hl 0 rfl) (ok_Sy_init.2.2.2.2.2 28 _ rfl).1 (kt_pb (ok_Sy_init.2.2.2.2.2 29 _ rfl).1 (by decide)) (ok_Sy_init.2.2.2.2.2 31 _ rfl).1 (ok_Sy_init.2.2.2.2.2 33 _ rfl).1 (Nat.le_of_ble_eq_true rfl) rfl rfl (Nat.le_of_ble_eq_true rfl) (Nat.le_of_ble_eq_true rfl) (fun _ => rfl) (fun _ => rfl) (fun q31 H locs hP hD hS => ?_)
  refine lv_aload_n hx hb (ok_Sy_init.2.2.2.2.2 36 _ rfl).1 rfl (lv_at hl 0 rfl) ?_
  refine lv_aload_n hx hb (ok_Sy_init.2.2.2.2.2 37 _ rfl).1 rfl (lv_at hl 2 rfl) ?_
  refine kt_put (v := .ref a2) (fs' := [.ref a2, .null, .ref q7, .ref q15, .ref q23, .ref q31, .int 0]) E kf_Sy_0 hK hP hD hS (ok_Sy_init.2.2.2.2.2 38 _ rfl).1 rfl rfl (Nat.le_of_ble_eq_true rfl) rfl (fun H locs hP hD hS => ?_)
  refine lv_aload_n hx hb (ok_Sy_init.2.2.2.2.2 41 _ rfl).1 rfl (lv_at hl 0 rfl) ?_
  refine kt_new (ci := 2) (fs := [.null, .int 0, .int 0, .int 0]) (cells' := 5) (slots' := 244) E ck_Cu rfl kw_505 kw_151 kw_116 t_Cu ty_Cu (by decide) hK hP hD hS hA rfl rfl (Nat.le_of_ble_eq_true rfl) (Nat.le_of_ble_eq_true rfl) (ok_Sy_init.2.2.2.2.2 42 _ rfl).1 (fun q42 H hP hD hS => ?_)
  refine lv_dup hx hb (ok_Sy_init.2.2.2.2.2 45 _ rfl).1 rfl ?_
  refine lv_aload_n hx hb (ok_Sy_init.2.2.2.2.2 46 _ rfl).1 rfl (lv_at hl 1 rfl) ?_
  refine kt_call (ws := [(h0, .inr (10, [.ref a2, .null, .ref q7, .ref q15, .ref q23, .ref q31, .int 0])), (q7, .inl (ca 0, 60, kt_zI)), (q15, .inl (ca 3, 60, kt_zI)), (q23, .inl (ca 1, 60, kt_zL)), (q31, .inl (ca 1, 60, kt_zL))]) (wo := wo_Cu_init q42 a1 ca) (cells' := 5) (slots' := 244) (fun hp => va_runI (As := [.ref a1]) (rest := [.ref q42, .ref h0]) ⟨hx, hb, hml, hown, hts⟩ (k_Cu_init l dC dI ca q42 a1 H.size) (cwI 1 hts (kt_good sys_c kg_Cu_init) rfl rfl rfl (htw _ kw_116) (htw _ kw_506) (htw _ kw_153) rfl kd_Cu_init ⟨(Nat.le_of_ble_eq_true rfl), (Nat.le_of_ble_eq_true rfl)⟩) hp rfl rfl hl.1 rfl (lv_room (Nat.le_of_ble_eq_true rfl)) (ok_Sy_init.2.2.2.2.2 47 _ rfl).1 ⟨(Nat.le_of_ble_eq_true rfl), (Nat.le_of_ble_eq_true rfl)⟩) hK hN hP hD hS hA rfl rfl (fun u47 H locs hP hD hS => ?_)
  have hP : va_P (dC, dI) cl_c [(h0, .inr (10, [.ref a2, .null, .ref q7, .ref q15, .ref q23, .ref q31, .int 0])), (q7, .inl (ca 0, 60, kt_zI)), (q15, .inl (ca 3, 60, kt_zI)), (q23, .inl (ca 1, 60, kt_zL)), (q31, .inl (ca 1, 60, kt_zL)), (q42, .inr (2, [.ref a1, .int 0, .int 0, .int 0]))] H := hP
  have hD : va_D A [(h0, .inr (10, [.ref a2, .null, .ref q7, .ref q15, .ref q23, .ref q31, .int 0])), (q7, .inl (ca 0, 60, kt_zI)), (q15, .inl (ca 3, 60, kt_zI)), (q23, .inl (ca 1, 60, kt_zL)), (q31, .inl (ca 1, 60, kt_zL)), (q42, .inr (2, [.ref a1, .int 0, .int 0, .int 0]))] := hD
  refine kt_put (v := .ref q42) (fs' := [.ref a2, .ref q42, .ref q7, .ref q15, .ref q23, .ref q31, .int 0]) E kf_Sy_1 hK hP hD hS (ok_Sy_init.2.2.2.2.2 50 _ rfl).1 rfl rfl (Nat.le_of_ble_eq_true rfl) rfl (fun H locs hP hD hS => ?_)
  have hP9 : va_P (dC, dI) cl_c (wo_Sy_init h0 a1 a2 ca (fun i => ([q7, q15, q23, q31, q42] : List Nat).getD i 0)) H := hP
  have hD9 : va_D A (wo_Sy_init h0 a1 a2 ca (fun i => ([q7, q15, q23, q31, q42] : List Nat).getD i 0)) := hD
  exact W.vret hx hb hr (fun t ht hW => ⟨⟨(fun i => ([q7, q15, q23, q31, q42] : List Nat).getD i 0), rfl, trivial, by rw [ht]; exact hP9, va_K.moved hW.alike hK, hD9⟩, hS.F ht⟩) hS.2.2 (ok_Sy_init.2.2.2.2.2 53 _ rfl).1
def wo_Fr_init (h0 a1 a2 a3 a4 a5 : Nat) (ca : Nat → ClassId) (u : Nat → Nat) : va_W := [(h0, .inr (11, [.ref a1, .ref a2, .ref a3, .ref a4, .ref a5, .ref (u 0), .ref (u 1), .ref (u 2), .ref (u 3), .ref (u 4), .ref (u 5), .int 0])), ((u 0), .inl (ca 0, 16, kt_zI)), ((u 1), .inl (ca 0, 16, kt_zI)), ((u 2), .inl (ca 0, 16, kt_zI)), ((u 3), .inl (ca 0, 16, kt_zI)), ((u 4), .inl (ca 0, 16, kt_zI)), ((u 5), .inl (ca 0, 16, kt_zI))]
set_option maxHeartbeats 4000000 in
set_option maxRecDepth 100000 in
theorem k_Fr_init (l : Launch) (dC : Nat → ClassId) (dI : Nat → Nat → Nat) (ca : Nat → ClassId) (h0 a1 a2 a3 a4 a5 sz : Nat) : Met l (am_nm M_Fr_init) (am_wm S_c M_Fr_init) (am_rm M_Fr_init) (kt_Pc (dC, dI) cl_c ca [.ref a1, .ref a2, .ref a3, .ref a4, .ref a5] h0 11 [.null, .null, .null, .null, .null, .null, .null, .null, .null, .null, .null, .int 0] sz) (kt_Qc (dC, dI) cl_c ca h0 11 [.null, .null, .null, .null, .null, .null, .null, .null, .null, .null, .null, .int 0] sz (wo_Fr_init h0 a1 a2 a3 a4 a5 ca)) 6 96 (va_A [(h0, .inr (11, [.null, .null, .null, .null, .null, .null, .null, .null, .null, .null, .null, .int 0]))] sz) := by
  refine Met.ofW (cc := am_cc M_Fr_init) (maxL := 6) (ret := none) (by decide +kernel) rfl ?_
  intro p e s m args below meth c s₁ B hml hv
  obtain ⟨rfl, hsz, hP, hK, hN, hD0⟩ := hv
  have hx := B.exec
  have hb := B.bytes
  have hr := B.returns
  have hts := atoms_spec (ws := am_wm S_c M_Fr_init) B.pre
  have hown : s.vm.findClass R_Fr = some m.cls := findClass_of_methodNamed B.named
  have hin : meth.name = "<init>" := (name_of_methodNamed B.named B.method).1
  have htw : ∀ w ∈ tw_, w.before _ s = true := fun w h => hts w (List.mem_cons_of_mem _ h)
  have E : kt_E (am_cc M_Fr_init) R_Fr p s m _ meth c := ⟨hx, hb, hown, htw, hin⟩
  subst hsz
  have hD := hD0.self (sz := s.heap.size)
  have hA : ∀ q : Nat, s.heap.size ≤ q → va_A [(h0, .inr (11, [.null, .null, .null, .null, .null, .null, .null, .null, .null, .null, .null, .int 0]))] s.heap.size q := fun q h => Or.inr h
  unfold kt_Qc
  generalize va_A [(h0, .inr (11, [.null, .null, .null, .null, .null, .null, .null, .null, .null, .null, .null, .int 0]))] s.heap.size = A at hD hA ⊢
  have hS : va_S A s.heap s.heap [] := va_S.rf
  have hl := lv_entry ([.ref h0, .ref a1, .ref a2, .ref a3, .ref a4, .ref a5]) (n := 6) (Nat.le_of_ble_eq_true rfl)
  rw [lg_entry_eq]
  generalize (lg_sl ([.ref h0, .ref a1, .ref a2, .ref a3, .ref a4, .ref a5]) ++ List.replicate (6 - (lg_sl ([.ref h0, .ref a1, .ref a2, .ref a3, .ref a4, .ref a5])).length) Slot.unset).toArray = ls at hl ⊢
  have hl : lv_has ls 6 [(0, .ref h0), (1, .ref a1), (2, .ref a2), (3, .ref a3), (4, .ref a4), (5, .ref a5)] := hl
  refine lv_aload_n hx hb (ok_Fr_init.2.2.2.2.2 0 _ rfl).1 rfl (lv_at hl 0 rfl) ?_
  refine W.objInit hx hb hown (htw _ kw_536) (htw _ kw_142) (htw _ kw_143) rfl (by rw [hml]; exact hl.1) rfl (ok_Fr_init.2.2.2.2.2 1 _ rfl).1 (Nat.le_of_ble_eq_true rfl) (show 12 ≤ 12 from by decide) ?_
  refine W.eq (g2 := F0 m 4 ls []) rfl ?_
  refine kt_fa (fs' := fun q => [.null, .null, .null, .null, .null, .ref q, .null, .null, .null, .null, .null, .int 0]) (ws' := fun q => [(q, .inl (ca 0, 16, kt_zI))]) (cells' := 1) (slots' := 16) E (kt_Zi (n := 16) (N' := 16) rfl) kf_Fr_5 kw_184 hK hP hD hS hA (lv_at hl 0 rfl) (ok_Fr_init.2.2.2.2.2 4 _ rfl).1 (kt_pb (ok_Fr_init.2.2.2.2.2 5 _ rfl).1 (by decide)) (ok_Fr_init.2.2.2.2.2 7 _ rfl).1 (ok_Fr_init.2.2.2.2.2 9 _ rfl).1 (Nat.le_of_ble_eq_true rfl) rfl rfl (Nat.le_of_ble_eq_true rfl) (Nat.le_of_ble_eq_true rfl) (fun _ => rfl) (fun _ => rfl) (fun q7 H locs hP hD hS => ?_)
  refine kt_fa (fs' := fun q => [.null, .null, .null, .null, .null, .ref q7, .ref q, .null, .null, .null, .null, .int 0]) (ws' := fun q => [(q7, .inl (ca 0, 16, kt_zI)), (q, .inl (ca 0, 16, kt_zI))]) (cells' := 2) (slots' := 32) E (kt_Zi (n := 16) (N' := 16) rfl) kf_Fr_6 kw_184 hK hP hD hS hA (lv_at hl 0 rfl) (ok_Fr_init.2.2.2.2.2 12 _ rfl).1 (kt_pb (ok_Fr_init.2.2.2.2.2 13 _ rfl).1 (by decide)) (ok_Fr_init.2.2.2.2.2 15 _ rfl).1 (ok_Fr_init.2.2.2.2.2 17 _ rfl).1 (Nat.le_of_ble_eq_true rfl) rfl rfl (Nat.le_of_ble_eq_true rfl) (Nat.le_of_ble_eq_true rfl) (fun _ => rfl) (fun _ => rfl) (fun q15 H locs hP hD hS => ?_)
  refine kt_fa (fs' := fun q => [.null, .null, .null, .null, .null, .ref q7, .ref q15, .ref q, .null, .null, .null, .int 0]) (ws' := fun q => [(q7, .inl (ca 0, 16, kt_zI)), (q15, .inl (ca 0, 16, kt_zI)), (q, .inl (ca 0, 16, kt_zI))]) (cells' := 3) (slots' := 48) E (kt_Zi (n := 16) (N' := 16) rfl) kf_Fr_7 kw_184 hK hP hD hS hA (lv_at hl 0 rfl) (ok_Fr_init.2.2.2.2.2 20 _ rfl).1 (kt_pb (ok_Fr_init.2.2.2.2.2 21 _ rfl).1 (by decide)) (ok_Fr_init.2.2.2.2.2 23 _ rfl).1 (ok_Fr_init.2.2.2.2.2 25 _ rfl).1 (Nat.le_of_ble_eq_true rfl) rfl rfl (Nat.le_of_ble_eq_true rfl) (Nat.le_of_ble_eq_true rfl) (fun _ => rfl) (fun _ => rfl) (fun q23 H locs hP hD hS => ?_)
  refine kt_fa (fs' := fun q => [.null, .null, .null, .null, .null, .ref q7, .ref q15, .ref q23, .ref q, .null, .null, .int 0]) (ws' := fun q => [(q7, .inl (ca 0, 16, kt_zI)), (q15, .inl (ca 0, 16, kt_zI)), (q23, .inl (ca 0, 16, kt_zI)), (q, .inl (ca 0, 16, kt_zI))]) (cells' := 4) (slots' := 64) E (kt_Zi (n := 16) (N' := 16) rfl) kf_Fr_8 kw_184 hK hP hD hS hA (lv_at hl 0 rfl) (ok_Fr_init.2.2.2.2.2 28 _ rfl).1 (kt_pb (ok_Fr_init.2.2.2.2.2 29 _ rfl).1 (by decide)) (ok_Fr_init.2.2.2.2.2 31 _ rfl).1 (ok_Fr_init.2.2.2.2.2 33 _ rfl).1 (Nat.le_of_ble_eq_true rfl) rfl rfl (Nat.le_of_ble_eq_true rfl) (Nat.le_of_ble_eq_true rfl) (fun _ => rfl) (fun _ => rfl) (fun q31 H locs hP hD hS => ?_)
  refine kt_fa (fs' := fun q => [.null, .null, .null, .null, .null, .ref q7, .ref q15, .ref q23, .ref q31, .ref q, .null, .int 0]) (ws' := fun q => [(q7, .inl (ca 0, 16, kt_zI)), (q15, .inl (ca 0, 16, kt_zI)), (q23, .inl (ca 0, 16, kt_zI)), (q31, .inl (ca 0, 16, kt_zI)), (q, .inl (ca 0, 16, kt_zI))]) (cells' := 5) (slots' := 80) E (kt_Zi (n := 16) (N' := 16) rfl) kf_Fr_9 kw_184 hK hP hD hS hA (lv_at hl 0 rfl) (ok_Fr_init.2.2.2.2.2 36 _ rfl).1 (kt_pb (ok_Fr_init.2.2.2.2.2 37 _ rfl).1 (by decide)) (ok_Fr_init.2.2.2.2.2 39 _ rfl).1 (ok_Fr_init.2.2.2.2.2 41 _ rfl).1 (Nat.le_of_ble_eq_true rfl) rfl rfl (Nat.le_of_ble_eq_true rfl) (Nat.le_of_ble_eq_true rfl) (fun _ => rfl) (fun _ => rfl) (fun q39 H locs hP hD hS => ?_)
  refine kt_fa (fs' := fun q => [.null, .null, .null, .null, .null, .ref q7, .ref q15, .ref q23, .ref q31, .ref q39, .ref q, .int 0]) (ws' := fun q => [(q7, .inl (ca 0, 16, kt_zI)), (q15, .inl (ca 0, 16, kt_zI)), (q23, .inl (ca 0, 16, kt_zI)), (q31, .inl (ca 0, 16, kt_zI)), (q39, .inl (ca 0, 16, kt_zI)), (q, .inl (ca 0, 16, kt_zI))]) (cells' := 6) (slots' := 96) E (kt_Zi (n := 16) (N' := 16) rfl) kf_Fr_10 kw_184 hK hP hD hS hA (lv_at hl 0 rfl) (ok_Fr_init.2.2.2.2.2 44 _ rfl).1 (kt_pb (ok_Fr_init.2.2.2.2.2 45 _ rfl).1 (by decide)) (ok_Fr_init.2.2.2.2.2 47 _ rfl).1 (ok_Fr_init.2.2.2.2.2 49 _ rfl).1 (Nat.le_of_ble_eq_true rfl) rfl rfl (Nat.le_of_ble_eq_true rfl) (Nat.le_of_ble_eq_true rfl) (fun _ => rfl) (fun _ => rfl) (fun q47 H locs hP hD hS => ?_)
  refine lv_aload_n hx hb (ok_Fr_init.2.2.2.2.2 52 _ rfl).1 rfl (lv_at hl 0 rfl) ?_
  refine lv_aload_n hx hb (ok_Fr_init.2.2.2.2.2 53 _ rfl).1 rfl (lv_at hl 1 rfl) ?_
  refine kt_put (v := .ref a1) (fs' := [.ref a1, .null, .null, .null, .null, .ref q7, .ref q15, .ref q23, .ref q31, .ref q39, .ref q47, .int 0]) E kf_Fr_0 hK hP hD hS (ok_Fr_init.2.2.2.2.2 54 _ rfl).1 rfl rfl (Nat.le_of_ble_eq_true rfl) rfl (fun H locs hP hD hS => ?_)
  refine lv_aload_n hx hb (ok_Fr_init.2.2.2.2.2 57 _ rfl).1 rfl (lv_at hl 0 rfl) ?_
  refine lv_aload_n hx hb (ok_Fr_init.2.2.2.2.2 58 _ rfl).1 rfl (lv_at hl 2 rfl) ?_
  refine kt_put (v := .ref a2) (fs' := [.ref a1, .ref a2, .null, .null, .null, .ref q7, .ref q15, .ref q23, .ref q31, .ref q39, .ref q47, .int 0]) E kf_Fr_1 hK hP hD hS (ok_Fr_init.2.2.2.2.2 59 _ rfl).1 rfl rfl (Nat.le_of_ble_eq_true rfl) rfl (fun H locs hP hD hS => ?_)
  refine lv_aload_n hx hb (ok_Fr_init.2.2.2.2.2 62 _ rfl).1 rfl (lv_at hl 0 rfl) ?_
  refine lv_aload_n hx hb (ok_Fr_init.2.2.2.2.2 63 _ rfl).1 rfl (lv_at hl 3 rfl) ?_
  refine kt_put (v := .ref a3) (fs' := [.ref a1, .ref a2, .ref a3, .null, .null, .ref q7, .ref q15, .ref q23, .ref q31, .ref q39, .ref q47, .int 0]) E kf_Fr_2 hK hP hD hS (ok_Fr_init.2.2.2.2.2 64 _ rfl).1 rfl rfl (Nat.le_of_ble_eq_true rfl) rfl (fun H locs hP hD hS => ?_)
  refine lv_aload_n hx hb (ok_Fr_init.2.2.2.2.2 67 _ rfl).1 rfl (lv_at hl 0 rfl) ?_
  refine lv_aload hx hb (ok_Fr_init.2.2.2.2.2 68 _ rfl).1 (lv_at hl 4 rfl) ?_
  refine kt_put (v := .ref a4) (fs' := [.ref a1, .ref a2, .ref a3, .ref a4, .null, .ref q7, .ref q15, .ref q23, .ref q31, .ref q39, .ref q47, .int 0]) E kf_Fr_3 hK hP hD hS (ok_Fr_init.2.2.2.2.2 70 _ rfl).1 rfl rfl (Nat.le_of_ble_eq_true rfl) rfl (fun H locs hP hD hS => ?_)
  refine lv_aload_n hx hb (ok_Fr_init.2.2.2.2.2 73 _ rfl).1 rfl (lv_at hl 0 rfl) ?_
  refine lv_aload hx hb (ok_Fr_init.2.2.2.2.2 74 _ rfl).1 (lv_at hl 5 rfl) ?_
  refine kt_put (v := .ref a5) (fs' := [.ref a1, .ref a2, .ref a3, .ref a4, .ref a5, .ref q7, .ref q15, .ref q23, .ref q31, .ref q39, .ref q47, .int 0]) E kf_Fr_4 hK hP hD hS (ok_Fr_init.2.2.2.2.2 76 _ rfl).1 rfl rfl (Nat.le_of_ble_eq_true rfl) rfl (fun H locs hP hD hS => ?_)
  have hP9 : va_P (dC, dI) cl_c (wo_Fr_init h0 a1 a2 a3 a4 a5 ca (fun i => ([q7, q15, q23, q31, q39, q47] : List Nat).getD i 0)) H := hP
  have hD9 : va_D A (wo_Fr_init h0 a1 a2 a3 a4 a5 ca (fun i => ([q7, q15, q23, q31, q39, q47] : List Nat).getD i 0)) := hD
  exact W.vret hx hb hr (fun t ht hW => ⟨⟨(fun i => ([q7, q15, q23, q31, q39, q47] : List Nat).getD i 0), rfl, trivial, by rw [ht]; exact hP9, va_K.moved hW.alike hK, hD9⟩, hS.F ht⟩) hS.2.2 (ok_Fr_init.2.2.2.2.2 79 _ rfl).1
