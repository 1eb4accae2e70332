def wo_Va_init (h0 a1 a2 a3 a4 : Nat) (ca : Nat → ClassId) (u : Nat → Nat) : va_W := [(h0, .inr (7, [.ref a2, .ref a3, .ref a4, .ref (u 0), .ref (u 1), .long 0, .int 0])), ((u 0), .inr (2, [.ref a1, .int 0, .int 0, .int 0])), ((u 1), .inr (2, [.ref a1, .int 0, .int 0, .int 0]))]
set_option maxHeartbeats 4000000 in
set_option maxRecDepth 100000 in
theorem k_Va_init (l : Launch) (dC : Nat → ClassId) (dI : Nat → Nat → Nat) (ca : Nat → ClassId) (h0 a1 a2 a3 a4 sz : Nat) : Met l (am_nm M_Va_init) (am_wm S_c M_Va_init) (am_rm M_Va_init) (kt_Pc (dC, dI) cl_c ca [.ref a1, .ref a2, .ref a3, .ref a4] h0 7 [.null, .null, .null, .null, .null, .long 0, .int 0] sz) (kt_Qc (dC, dI) cl_c ca h0 7 [.null, .null, .null, .null, .null, .long 0, .int 0] sz (wo_Va_init h0 a1 a2 a3 a4 ca)) 2 8 (va_A [(h0, .inr (7, [.null, .null, .null, .null, .null, .long 0, .int 0]))] sz) := by
  refine Met.ofW (cc := am_cc M_Va_init) (maxL := 5) (ret := none) (by decide +kernel) rfl ?_
  intro p e s m args below meth c s₁ B hml hv
  obtain ⟨rfl, hsz, hP, hK, hN, hD0⟩ := hv
  have hx := B.exec
  have hb := B.bytes
  have hr := B.returns
  have hts := atoms_spec (ws := am_wm S_c M_Va_init) B.pre
  have hown : s.vm.findClass R_Va = some m.cls := findClass_of_methodNamed B.named
  have hin : meth.name = "<init>" := (name_of_methodNamed B.named B.method).1
  have htw : ∀ w ∈ tw_, w.before _ s = true := fun w h => hts w (List.mem_cons_of_mem _ h)
  have E : kt_E (am_cc M_Va_init) R_Va p s m _ meth c := ⟨hx, hb, hown, htw, hin⟩
  subst hsz
  have hD := hD0.self (sz := s.heap.size)
  have hA : ∀ q : Nat, s.heap.size ≤ q → va_A [(h0, .inr (7, [.null, .null, .null, .null, .null, .long 0, .int 0]))] s.heap.size q := fun q h => Or.inr h
  unfold kt_Qc
  generalize va_A [(h0, .inr (7, [.null, .null, .null, .null, .null, .long 0, .int 0]))] s.heap.size = A at hD hA ⊢
  have hS : va_S A s.heap s.heap [] := va_S.rf
  have hl := lv_entry ([.ref h0, .ref a1, .ref a2, .ref a3, .ref a4]) (n := 5) (Nat.le_of_ble_eq_true rfl)
  rw [lg_entry_eq]
  generalize (lg_sl ([.ref h0, .ref a1, .ref a2, .ref a3, .ref a4]) ++ List.replicate (5 - (lg_sl ([.ref h0, .ref a1, .ref a2, .ref a3, .ref a4])).length) Slot.unset).toArray = ls at hl ⊢
  have hl : lv_has ls 5 [(0, .ref h0), (1, .ref a1), (2, .ref a2), (3, .ref a3), (4, .ref a4)] := hl
  refine lv_aload_n hx hb (ok_Va_init.2.2.2.2.2 0 _ rfl).1 rfl (lv_at hl 0 rfl) ?_
  refine W.objInit hx hb hown (htw _ kw_383) (htw _ kw_142) (htw _ kw_143) rfl (by rw [hml]; exact hl.1) rfl (ok_Va_init.2.2.2.2.2 1 _ rfl).1 (Nat.le_of_ble_eq_true rfl) (show 12 ≤ 33 from by decide) ?_
  refine W.eq (g2 := F0 m 4 ls []) rfl ?_
  refine lv_aload_n hx hb (ok_Va_init.2.2.2.2.2 4 _ rfl).1 rfl (lv_at hl 0 rfl) ?_
  refine lv_aload_n hx hb (ok_Va_init.2.2.2.2.2 5 _ rfl).1 rfl (lv_at hl 2 rfl) ?_
  refine kt_put (v := .ref a2) (fs' := [.ref a2, .null, .null, .null, .null, .long 0, .int 0]) E kf_Va_0 hK hP hD hS (ok_Va_init.2.2.2.2.2 6 _ rfl).1 rfl rfl (Nat.le_of_ble_eq_true rfl) rfl (fun H locs hP hD hS => ?_)
  refine lv_aload_n hx hb (ok_Va_init.2.2.2.2.2 9 _ rfl).1 rfl (lv_at hl 0 rfl) ?_
  refine lv_aload_n hx hb (ok_Va_init.2.2.2.2.2 10 _ rfl).1 rfl (lv_at hl 3 rfl) ?_
  refine kt_put (v := .ref a3) (fs' := [.ref a2, .ref a3, .null, .null, .null, .long 0, .int 0]) E kf_Va_1 hK hP hD hS (ok_Va_init.2.2.2.2.2 11 _ rfl).1 rfl rfl (Nat.le_of_ble_eq_true rfl) rfl (fun H locs hP hD hS => ?_)
  refine lv_aload_n hx hb (ok_Va_init.2.2.2.2.2 14 _ rfl).1 rfl (lv_at hl 0 rfl) ?_
  refine lv_aload hx hb (ok_Va_init.2.2.2.2.2 15 _ rfl).1 (lv_at hl 4 rfl) ?_
  refine kt_put (v := .ref a4) (fs' := [.ref a2, .ref a3, .ref a4, .null, .null, .long 0, .int 0]) E kf_Va_2 hK hP hD hS (ok_Va_init.2.2.2.2.2 17 _ rfl).1 rfl rfl (Nat.le_of_ble_eq_true rfl) rfl (fun H locs hP hD hS => ?_)
  refine lv_aload_n hx hb (ok_Va_init.2.2.2.2.2 20 _ rfl).1 rfl (lv_at hl 0 rfl) ?_
  refine kt_new (ci := 2) (fs := [.null, .int 0, .int 0, .int 0]) (cells' := 1) (slots' := 4) E ck_Cu rfl kw_384 kw_151 kw_116 t_Cu ty_Cu (by decide) hK hP hD hS hA rfl rfl (Nat.le_of_ble_eq_true rfl) (Nat.le_of_ble_eq_true rfl) (ok_Va_init.2.2.2.2.2 21 _ rfl).1 (fun q21 H hP hD hS => ?_)
  refine lv_dup hx hb (ok_Va_init.2.2.2.2.2 24 _ rfl).1 rfl ?_
  refine lv_aload_n hx hb (ok_Va_init.2.2.2.2.2 25 _ rfl).1 rfl (lv_at hl 1 rfl) ?_
  refine kt_call (ws := [(h0, .inr (7, [.ref a2, .ref a3, .ref a4, .null, .null, .long 0, .int 0]))]) (wo := wo_Cu_init q21 a1 ca) (cells' := 1) (slots' := 4) (fun hp => va_runI (As := [.ref a1]) (rest := [.ref q21, .ref h0]) ⟨hx, hb, hml, hown, hts⟩ (k_Cu_init l dC dI ca q21 a1 H.size) (cwI 1 hts (kt_good sys_c kg_Cu_init) rfl rfl rfl (htw _ kw_116) (htw _ kw_385) (htw _ kw_153) rfl kd_Cu_init ⟨(Nat.le_of_ble_eq_true rfl), (Nat.le_of_ble_eq_true rfl)⟩) hp rfl rfl hl.1 rfl (lv_room (Nat.le_of_ble_eq_true rfl)) (ok_Va_init.2.2.2.2.2 26 _ rfl).1 ⟨(Nat.le_of_ble_eq_true rfl), (Nat.le_of_ble_eq_true rfl)⟩) hK hN hP hD hS hA rfl rfl (fun u26 H locs hP hD hS => ?_)
  have hP : va_P (dC, dI) cl_c [(h0, .inr (7, [.ref a2, .ref a3, .ref a4, .null, .null, .long 0, .int 0])), (q21, .inr (2, [.ref a1, .int 0, .int 0, .int 0]))] H := hP
  have hD : va_D A [(h0, .inr (7, [.ref a2, .ref a3, .ref a4, .null, .null, .long 0, .int 0])), (q21, .inr (2, [.ref a1, .int 0, .int 0, .int 0]))] := hD
  refine kt_put (v := .ref q21) (fs' := [.ref a2, .ref a3, .ref a4, .ref q21, .null, .long 0, .int 0]) E kf_Va_3 hK hP hD hS (ok_Va_init.2.2.2.2.2 29 _ rfl).1 rfl rfl (Nat.le_of_ble_eq_true rfl) rfl (fun H locs hP hD hS => ?_)
  refine lv_aload_n hx hb (ok_Va_init.2.2.2.2.2 32 _ rfl).1 rfl (lv_at hl 0 rfl) ?_
  refine kt_new (ci := 2) (fs := [.null, .int 0, .int 0, .int 0]) (cells' := 2) (slots' := 8) E ck_Cu rfl kw_384 kw_151 kw_116 t_Cu ty_Cu (by decide) hK hP hD hS hA rfl rfl (Nat.le_of_ble_eq_true rfl) (Nat.le_of_ble_eq_true rfl) (ok_Va_init.2.2.2.2.2 33 _ rfl).1 (fun q33 H hP hD hS => ?_)
  refine lv_dup hx hb (ok_Va_init.2.2.2.2.2 36 _ rfl).1 rfl ?_
  refine lv_aload_n hx hb (ok_Va_init.2.2.2.2.2 37 _ rfl).1 rfl (lv_at hl 1 rfl) ?_
  refine kt_call (ws := [(h0, .inr (7, [.ref a2, .ref a3, .ref a4, .ref q21, .null, .long 0, .int 0])), (q21, .inr (2, [.ref a1, .int 0, .int 0, .int 0]))]) (wo := wo_Cu_init q33 a1 ca) (cells' := 2) (slots' := 8) (fun hp => va_runI (As := [.ref a1]) (rest := [.ref q33, .ref h0]) ⟨hx, hb, hml, hown, hts⟩ (k_Cu_init l dC dI ca q33 a1 H.size) (cwI 1 hts (kt_good sys_c kg_Cu_init) rfl rfl rfl (htw _ kw_116) (htw _ kw_385) (htw _ kw_153) rfl kd_Cu_init ⟨(Nat.le_of_ble_eq_true rfl), (Nat.le_of_ble_eq_true rfl)⟩) hp rfl rfl hl.1 rfl (lv_room (Nat.le_of_ble_eq_true rfl)) (ok_Va_init.2.2.2.2.2 38 _ rfl).1 ⟨(Nat.le_of_ble_eq_true rfl), (Nat.le_of_ble_eq_true rfl)⟩) hK hN hP hD hS hA rfl rfl (fun u38 H locs hP hD hS => ?_)
  have hP : va_P (dC, dI) cl_c [(h0, .inr (7, [.ref a2, .ref a3, .ref a4, .ref q21, .null, .long 0, .int 0])), (q21, .inr (2, [.ref a1, .int 0, .int 0, .int 0])), (q33, .inr (2, [.ref a1, .int 0, .int 0, .int 0]))] H := hP
  have hD : va_D A [(h0, .inr (7, [.ref a2, .ref a3, .ref a4, .ref q21, .null, .long 0, .int 0])), (q21, .inr (2, [.ref a1, .int 0, .int 0, .int 0])), (q33, .inr (2, [.ref a1, .int 0, .int 0, .int 0]))] := hD
  refine kt_put (v := .ref q33) (fs' := [.ref a2, .ref a3, .ref a4, .ref q21, .ref q33, .long 0, .int 0]) E kf_Va_4 hK hP hD hS (ok_Va_init.2.2.2.2.2 41 _ rfl).1 rfl rfl (Nat.le_of_ble_eq_true rfl) rfl (fun H locs hP hD hS => ?_)
  have hP9 : va_P (dC, dI) cl_c (wo_Va_init h0 a1 a2 a3 a4 ca (fun i => ([q21, q33] : List Nat).getD i 0)) H := hP
  have hD9 : va_D A (wo_Va_init h0 a1 a2 a3 a4 ca (fun i => ([q21, q33] : List Nat).getD i 0)) := hD
  exact W.vret hx hb hr (fun t ht hW => ⟨⟨(fun i => ([q21, q33] : List Nat).getD i 0), rfl, trivial, by rw [ht]; exact hP9, va_K.moved hW.alike hK, hD9⟩, hS.F ht⟩) hS.2.2 (ok_Va_init.2.2.2.2.2 44 _ rfl).1
def wo_Ro_init (h0 : Nat) (ca : Nat → ClassId) (u : Nat → Nat) : va_W := [(h0, .inr (8, [.ref (u 0), .ref (u 1), .ref (u 2), .ref (u 3), .ref (u 4), .ref (u 5), .ref (u 6), .ref (u 7), .int 0])), ((u 0), .inl (ca 1, 400, kt_zL)), ((u 1), .inl (ca 1, 400, kt_zL)), ((u 2), .inl (ca 0, 400, kt_zI)), ((u 3), .inl (ca 3, 400, kt_zI)), ((u 4), .inl (ca 0, 4, kt_zI)), ((u 5), .inl (ca 0, 4, kt_zI)), ((u 6), .inl (ca 0, 4, kt_zI)), ((u 7), .inl (ca 0, 120, kt_zI))]
set_option maxHeartbeats 4000000 in
set_option maxRecDepth 100000 in
theorem k_Ro_init (l : Launch) (dC : Nat → ClassId) (dI : Nat → Nat → Nat) (ca : Nat → ClassId) (h0 sz : Nat) : Met l (am_nm M_Ro_init) (am_wm S_c M_Ro_init) (am_rm M_Ro_init) (kt_Pc (dC, dI) cl_c ca [] h0 8 [.null, .null, .null, .null, .null, .null, .null, .null, .int 0] sz) (kt_Qc (dC, dI) cl_c ca h0 8 [.null, .null, .null, .null, .null, .null, .null, .null, .int 0] sz (wo_Ro_init h0 ca)) 8 1732 (va_A [(h0, .inr (8, [.null, .null, .null, .null, .null, .null, .null, .null, .int 0]))] sz) := by
  refine Met.ofW (cc := am_cc M_Ro_init) (maxL := 1) (ret := none) (by decide +kernel) rfl ?_
  intro p e s m args below meth c s₁ B hml hv
  obtain ⟨rfl, hsz, hP, hK, hN, hD0⟩ := hv
  have hx := B.exec
  have hb := B.bytes
  have hr := B.returns
  have hts := atoms_spec (ws := am_wm S_c M_Ro_init) B.pre
  have hown : s.vm.findClass R_Ro = some m.cls := findClass_of_methodNamed B.named
  have hin : meth.name = "<init>" := (name_of_methodNamed B.named B.method).1
  have htw : ∀ w ∈ tw_, w.before _ s = true := fun w h => hts w (List.mem_cons_of_mem _ h)
  have E : kt_E (am_cc M_Ro_init) R_Ro p s m _ meth c := ⟨hx, hb, hown, htw, hin⟩
  subst hsz
  have hD := hD0.self (sz := s.heap.size)
  have hA : ∀ q : Nat, s.heap.size ≤ q → va_A [(h0, .inr (8, [.null, .null, .null, .null, .null, .null, .null, .null, .int 0]))] s.heap.size q := fun q h => Or.inr h
  unfold kt_Qc
  generalize va_A [(h0, .inr (8, [.null, .null, .null, .null, .null, .null, .null, .null, .int 0]))] s.heap.size = A at hD hA ⊢
  have hS : va_S A s.heap s.heap [] := va_S.rf
  have hl := lv_entry ([.ref h0]) (n := 1) (Nat.le_of_ble_eq_true rfl)
  rw [lg_entry_eq]
  generalize (lg_sl ([.ref h0]) ++ List.replicate (1 - (lg_sl ([.ref h0])).length) Slot.unset).toArray = ls at hl ⊢
  have hl : lv_has ls 1 [(0, .ref h0)] := hl
  refine lv_aload_n hx hb (ok_Ro_init.2.2.2.2.2 0 _ rfl).1 rfl (lv_at hl 0 rfl) ?_
  refine W.objInit hx hb hown (htw _ kw_413) (htw _ kw_142) (htw _ kw_143) rfl (by rw [hml]; exact hl.1) rfl (ok_Ro_init.2.2.2.2.2 1 _ rfl).1 (Nat.le_of_ble_eq_true rfl) (show 12 ≤ 12 from by decide) ?_
  refine W.eq (g2 := F0 m 4 ls []) rfl ?_
  refine kt_fa (fs' := fun q => [.ref q, .null, .null, .null, .null, .null, .null, .null, .int 0]) (ws' := fun q => [(q, .inl (ca 1, 400, kt_zL))]) (cells' := 1) (slots' := 400) E (kt_Zl (n := 400) (N' := 400) rfl) kf_Ro_0 kw_185 hK hP hD hS hA (lv_at hl 0 rfl) (ok_Ro_init.2.2.2.2.2 4 _ rfl).1 (kt_ps (ok_Ro_init.2.2.2.2.2 5 _ rfl).1 (by decide)) (ok_Ro_init.2.2.2.2.2 8 _ rfl).1 (ok_Ro_init.2.2.2.2.2 10 _ rfl).1 (Nat.le_of_ble_eq_true rfl) rfl rfl (Nat.le_of_ble_eq_true rfl) (Nat.le_of_ble_eq_true rfl) (fun _ => rfl) (fun _ => rfl) (fun q8 H locs hP hD hS => ?_)
  refine kt_fa (fs' := fun q => [.ref q8, .ref q, .null, .null, .null, .null, .null, .null, .int 0]) (ws' := fun q => [(q8, .inl (ca 1, 400, kt_zL)), (q, .inl (ca 1, 400, kt_zL))]) (cells' := 2) (slots' := 800) E (kt_Zl (n := 400) (N' := 400) rfl) kf_Ro_1 kw_185 hK hP hD hS hA (lv_at hl 0 rfl) (ok_Ro_init.2.2.2.2.2 13 _ rfl).1 (kt_ps (ok_Ro_init.2.2.2.2.2 14 _ rfl).1 (by decide)) (ok_Ro_init.2.2.2.2.2 17 _ rfl).1 (ok_Ro_init.2.2.2.2.2 19 _ rfl).1 (Nat.le_of_ble_eq_true rfl) rfl rfl (Nat.le_of_ble_eq_true rfl) (Nat.le_of_ble_eq_true rfl) (fun _ => rfl) (fun _ => rfl) (fun q17 H locs hP hD hS => ?_)
  refine kt_fa (fs' := fun q => [.ref q8, .ref q17, .ref q, .null, .null, .null, .null, .null, .int 0]) (ws' := fun q => [(q8, .inl (ca 1, 400, kt_zL)), (q17, .inl (ca 1, 400, kt_zL)), (q, .inl (ca 0, 400, kt_zI))]) (cells' := 3) (slots' := 1200) E (kt_Zi (n := 400) (N' := 400) rfl) kf_Ro_2 kw_184 hK hP hD hS hA (lv_at hl 0 rfl) (ok_Ro_init.2.2.2.2.2 22 _ rfl).1 (kt_ps (ok_Ro_init.2.2.2.2.2 23 _ rfl).1 (by decide)) (ok_Ro_init.2.2.2.2.2 26 _ rfl).1 (ok_Ro_init.2.2.2.2.2 28 _ rfl).1 (Nat.le_of_ble_eq_true rfl) rfl rfl (Nat.le_of_ble_eq_true rfl) (Nat.le_of_ble_eq_true rfl) (fun _ => rfl) (fun _ => rfl) (fun q26 H locs hP hD hS => ?_)
  refine kt_fa (fs' := fun q => [.ref q8, .ref q17, .ref q26, .ref q, .null, .null, .null, .null, .int 0]) (ws' := fun q => [(q8, .inl (ca 1, 400, kt_zL)), (q17, .inl (ca 1, 400, kt_zL)), (q26, .inl (ca 0, 400, kt_zI)), (q, .inl (ca 3, 400, kt_zI))]) (cells' := 4) (slots' := 1600) E (kt_Zz (n := 400) (N' := 400) rfl) kf_Ro_3 kw_186 hK hP hD hS hA (lv_at hl 0 rfl) (ok_Ro_init.2.2.2.2.2 31 _ rfl).1 (kt_ps (ok_Ro_init.2.2.2.2.2 32 _ rfl).1 (by decide)) (ok_Ro_init.2.2.2.2.2 35 _ rfl).1 (ok_Ro_init.2.2.2.2.2 37 _ rfl).1 (Nat.le_of_ble_eq_true rfl) rfl rfl (Nat.le_of_ble_eq_true rfl) (Nat.le_of_ble_eq_true rfl) (fun _ => rfl) (fun _ => rfl) (fun q35 H locs hP hD hS => ?_)
  refine kt_fa (fs' := fun q => [.ref q8, .ref q17, .ref q26, .ref q35, .ref q, .null, .null, .null, .int 0]) (ws' := fun q => [(q8, .inl (ca 1, 400, kt_zL)), (q17, .inl (ca 1, 400, kt_zL)), (q26, .inl (ca 0, 400, kt_zI)), (q35, .inl (ca 3, 400, kt_zI)), (q, .inl (ca 0, 4, kt_zI))]) (cells' := 5) (slots' := 1604) E (kt_Zi (n := 4) (N' := 4) rfl) kf_Ro_4 kw_184 hK hP hD hS hA (lv_at hl 0 rfl) (ok_Ro_init.2.2.2.2.2 40 _ rfl).1 (kt_pc (ok_Ro_init.2.2.2.2.2 41 _ rfl).1 (by decide)) (ok_Ro_init.2.2.2.2.2 42 _ rfl).1 (ok_Ro_init.2.2.2.2.2 44 _ rfl).1 (Nat.le_of_ble_eq_true rfl) rfl rfl (Nat.le_of_ble_eq_true rfl) (Nat.le_of_ble_eq_true rfl) (fun _ => rfl) (fun _ => rfl) (fun q42 H locs hP hD hS => ?_)
  refine kt_fa (fs' := fun q => [.ref q8, .ref q17, .ref q26, .ref q35, .ref q42, .ref q, .null, .null, .int 0]) (ws' := fun q => [(q8, .inl (ca 1, 400, kt_zL)), (q17, .inl (ca 1, 400, kt_zL)), (q26, .inl (ca 0, 400, kt_zI)), (q35, .inl (ca 3, 400, kt_zI)), (q42, .inl (ca 0, 4, kt_zI)), (q, .inl (ca 0, 4, kt_zI))]) (cells' := 6) (slots' := 1608) E (kt_Zi (n := 4) (N' := 4) rfl) kf_Ro_5 kw_184 hK hP hD hS hA (lv_at hl 0 rfl) (ok_Ro_init.2.2.2.2.2 47 _ rfl).1 (kt_pc (ok_Ro_init.2.2.2.2.2 48 _ rfl).1 (by decide)) (ok_Ro_init.2.2.2.2.2 49 _ rfl).1 (ok_Ro_init.2.2.2.2.2 51 _ rfl).1 (Nat.le_of_ble_eq_true rfl) rfl rfl (Nat.le_of_ble_eq_true rfl) (Nat.le_of_ble_eq_true rfl) (fun _ => rfl) (fun _ => rfl) (fun q49 H locs hP hD hS => ?_)
  refine kt_fa (fs' := fun q => [.ref q8, .ref q17, .ref q26, .ref q35, .ref q42, .ref q49, .ref q, .null, .int 0]) (ws' := fun q => [(q8, .inl (ca 1, 400, kt_zL)), (q17, .inl (ca 1, 400, kt_zL)), (q26, .inl (ca 0, 400, kt_zI)), (q35, .inl (ca 3, 400, kt_zI)), (q42, .inl (ca 0, 4, kt_zI)), (q49, .inl (ca 0, 4, kt_zI)), (q, .inl (ca 0, 4, kt_zI))]) (cells' := 7) (slots' := 1612) E (kt_Zi (n := 4) (N' := 4) rfl) kf_Ro_6 kw_184 hK hP hD hS hA (lv_at hl 0 rfl) (ok_Ro_init.2.2.2.2.2 54 _ rfl).1 (kt_pc (ok_Ro_init.2.2.2.2.2 55 _ rfl).1 (by decide)) (ok_Ro_init.2.2.2.2.2 56 _ rfl).1 (ok_Ro_init.2.2.2.2.2 58 _ rfl).1 (Nat.le_of_ble_eq_true rfl) rfl rfl (Nat.le_of_ble_eq_true rfl) (Nat.le_of_ble_eq_true rfl) (fun _ => rfl) (fun _ => rfl) (fun q56 H locs hP hD hS => ?_)
  refine kt_fa (fs' := fun q => [.ref q8, .ref q17, .ref q26, .ref q35, .ref q42, .ref q49, .ref q56, .ref q, .int 0]) (ws' := fun q => [(q8, .inl (ca 1, 400, kt_zL)), (q17, .inl (ca 1, 400, kt_zL)), (q26, .inl (ca 0, 400, kt_zI)), (q35, .inl (ca 3, 400, kt_zI)), (q42, .inl (ca 0, 4, kt_zI)), (q49, .inl (ca 0, 4, kt_zI)), (q56, .inl (ca 0, 4, kt_zI)), (q, .inl (ca 0, 120, kt_zI))]) (cells' := 8) (slots' := 1732) E (kt_Zi (n := 120) (N' := 120) rfl) kf_Ro_7 kw_184 hK hP hD hS hA (lv_at hl 0 rfl) (ok_Ro_init.2.2.2.2.2 61 _ rfl).1 (kt_pb (ok_Ro_init.2.2.2.2.2 62 _ rfl).1 (by decide)) (ok_Ro_init.2.2.2.2.2 64 _ rfl).1 (ok_Ro_init.2.2.2.2.2 66 _ rfl).1 (Nat.le_of_ble_eq_true rfl) rfl rfl (Nat.le_of_ble_eq_true rfl) (Nat.le_of_ble_eq_true rfl) (fun _ => rfl) (fun _ => rfl) (fun q64 H locs hP hD hS => ?_)
  have hP9 : va_P (dC, dI) cl_c (wo_Ro_init h0 ca (fun i => ([q8, q17, q26, q35, q42, q49, q56, q64] : List Nat).getD i 0)) H := hP
  have hD9 : va_D A (wo_Ro_init h0 ca (fun i => ([q8, q17, q26, q35, q42, q49, q56, q64] : List Nat).getD i 0)) := hD
  exact W.vret hx hb hr (fun t ht hW => ⟨⟨(fun i => ([q8, q17, q26, q35, q42, q49, q56, q64] : List Nat).getD i 0), rfl, trivial, by rw [ht]; exact hP9, va_K.moved hW.alike hK, hD9⟩, hS.F ht⟩) hS.2.2 (ok_Ro_init.2.2.2.2.2 69 _ rfl).1
def wo_Li_init (h0 a1 a2 a3 a4 : Nat) (ca : Nat → ClassId) (u : Nat → Nat) : va_W := [(h0, .inr (9, [.ref a2, .ref a3, .ref a4, .ref a1, .ref (u 1), .ref (u 0), .int 0, .int 0, .int 0, .int 0, .int 0, .int 0, .long 0, .long 0, .int 0])), ((u 0), .inl (ca 0, 6, kt_zI)), ((u 1), .inr (2, [.ref a1, .int 0, .int 0, .int 0]))]
set_option maxHeartbeats 4000000 in
set_option maxRecDepth 100000 in
theorem k_Li_init (l : Launch) (dC : Nat → ClassId) (dI : Nat → Nat → Nat) (ca : Nat → ClassId) (h0 a1 a2 a3 a4 sz : Nat) : Met l (am_nm M_Li_init) (am_wm S_c M_Li_init) (am_rm M_Li_init) (kt_Pc (dC, dI) cl_c ca [.ref a1, .ref a2, .ref a3, .ref a4] h0 9 [.null, .null, .null, .null, .null, .null, .int 0, .int 0, .int 0, .int 0, .int 0, .int 0, .long 0, .long 0, .int 0] sz) (kt_Qc (dC, dI) cl_c ca h0 9 [.null, .null, .null, .null, .null, .null, .int 0, .int 0, .int 0, .int 0, .int 0, .int 0, .long 0, .long 0, .int 0] sz (wo_Li_init h0 a1 a2 a3 a4 ca)) 2 10 (va_A [(h0, .inr (9, [.null, .null, .null, .null, .null, .null, .int 0, .int 0, .int 0, .int 0, .int 0, .int 0, .long 0, .long 0, .int 0]))] sz) := by
  refine Met.ofW (cc := am_cc M_Li_init) (maxL := 5) (ret := none) (by decide +kernel) rfl ?_
  intro p e s m args below meth c s₁ B hml hv
  obtain ⟨rfl, hsz, hP, hK, hN, hD0⟩ := hv
  have hx := B.exec
  have hb := B.bytes
  have hr := B.returns
  have hts := atoms_spec (ws := am_wm S_c M_Li_init) B.pre
  have hown : s.vm.findClass R_Li = some m.cls := findClass_of_methodNamed B.named
  have hin : meth.name = "<init>" := (name_of_methodNamed B.named B.method).1
  have htw : ∀ w ∈ tw_, w.before _ s = true := fun w h => hts w (List.mem_cons_of_mem _ h)
  have E : kt_E (am_cc M_Li_init) R_Li p s m _ meth c := ⟨hx, hb, hown, htw, hin⟩
  subst hsz
  have hD := hD0.self (sz := s.heap.size)
  have hA : ∀ q : Nat, s.heap.size ≤ q → va_A [(h0, .inr (9, [.null, .null, .null, .null, .null, .null, .int 0, .int 0, .int 0, .int 0, .int 0, .int 0, .long 0, .long 0, .int 0]))] s.heap.size q := fun q h => Or.inr h
  unfold kt_Qc
  generalize va_A [(h0, .inr (9, [.null, .null, .null, .null, .null, .null, .int 0, .int 0, .int 0, .int 0, .int 0, .int 0, .long 0, .long 0, .int 0]))] s.heap.size = A at hD hA ⊢
  have hS : va_S A s.heap s.heap [] := va_S.rf
  have hl := lv_entry ([.ref h0, .ref a1, .ref a2, .ref a3, .ref a4]) (n := 5) (Nat.le_of_ble_eq_true rfl)
  rw [lg_entry_eq]
  generalize (lg_sl ([.ref h0, .ref a1, .ref a2, .ref a3, .ref a4]) ++ List.replicate (5 - (lg_sl ([.ref h0, .ref a1, .ref a2, .ref a3, .ref a4])).length) Slot.unset).toArray = ls at hl ⊢
  have hl : lv_has ls 5 [(0, .ref h0), (1, .ref a1), (2, .ref a2), (3, .ref a3), (4, .ref a4)] := hl
  refine lv_aload_n hx hb (ok_Li_init.2.2.2.2.2 0 _ rfl).1 rfl (lv_at hl 0 rfl) ?_
  refine W.objInit hx hb hown (htw _ kw_450) (htw _ kw_142) (htw _ kw_143) rfl (by rw [hml]; exact hl.1) rfl (ok_Li_init.2.2.2.2.2 1 _ rfl).1 (Nat.le_of_ble_eq_true rfl) (show 12 ≤ 33 from by decide) ?_
  refine W.eq (g2 := F0 m 4 ls []) rfl ?_
  refine kt_fa (fs' := fun q => [.null, .null, .null, .null, .null, .ref q, .int 0, .int 0, .int 0, .int 0, .int 0, .int 0, .long 0, .long 0, .int 0]) (ws' := fun q => [(q, .inl (ca 0, 6, kt_zI))]) (cells' := 1) (slots' := 6) E (kt_Zi (n := 6) (N' := 6) rfl) kf_Li_5 kw_184 hK hP hD hS hA (lv_at hl 0 rfl) (ok_Li_init.2.2.2.2.2 4 _ rfl).1 (kt_pb (ok_Li_init.2.2.2.2.2 5 _ rfl).1 (by decide)) (ok_Li_init.2.2.2.2.2 7 _ rfl).1 (ok_Li_init.2.2.2.2.2 9 _ rfl).1 (Nat.le_of_ble_eq_true rfl) rfl rfl (Nat.le_of_ble_eq_true rfl) (Nat.le_of_ble_eq_true rfl) (fun _ => rfl) (fun _ => rfl) (fun q7 H locs hP hD hS => ?_)
  refine lv_aload_n hx hb (ok_Li_init.2.2.2.2.2 12 _ rfl).1 rfl (lv_at hl 0 rfl) ?_
  refine lv_aload_n hx hb (ok_Li_init.2.2.2.2.2 13 _ rfl).1 rfl (lv_at hl 1 rfl) ?_
  refine kt_put (v := .ref a1) (fs' := [.null, .null, .null, .ref a1, .null, .ref q7, .int 0, .int 0, .int 0, .int 0, .int 0, .int 0, .long 0, .long 0, .int 0]) E kf_Li_3 hK hP hD hS (ok_Li_init.2.2.2.2.2 14 _ rfl).1 rfl rfl (Nat.le_of_ble_eq_true rfl) rfl (fun H locs hP hD hS => ?_)
  refine lv_aload_n hx hb (ok_Li_init.2.2.2.2.2 17 _ rfl).1 rfl (lv_at hl 0 rfl) ?_
  refine lv_aload_n hx hb (ok_Li_init.2.2.2.2.2 18 _ rfl).1 rfl (lv_at hl 2 rfl) ?_
  refine kt_put (v := .ref a2) (fs' := [.ref a2, .null, .null, .ref a1, .null, .ref q7, .int 0, .int 0, .int 0, .int 0, .int 0, .int 0, .long 0, .long 0, .int 0]) E kf_Li_0 hK hP hD hS (ok_Li_init.2.2.2.2.2 19 _ rfl).1 rfl rfl (Nat.le_of_ble_eq_true rfl) rfl (fun H locs hP hD hS => ?_)
  refine lv_aload_n hx hb (ok_Li_init.2.2.2.2.2 22 _ rfl).1 rfl (lv_at hl 0 rfl) ?_
  refine lv_aload_n hx hb (ok_Li_init.2.2.2.2.2 23 _ rfl).1 rfl (lv_at hl 3 rfl) ?_
  refine kt_put (v := .ref a3) (fs' := [.ref a2, .ref a3, .null, .ref a1, .null, .ref q7, .int 0, .int 0, .int 0, .int 0, .int 0, .int 0, .long 0, .long 0, .int 0]) E kf_Li_1 hK hP hD hS (ok_Li_init.2.2.2.2.2 24 _ rfl).1 rfl rfl (Nat.le_of_ble_eq_true rfl) rfl (fun H locs hP hD hS => ?_)
  refine lv_aload_n hx hb (ok_Li_init.2.2.2.2.2 27 _ rfl).1 rfl (lv_at hl 0 rfl) ?_
  refine lv_aload hx hb (ok_Li_init.2.2.2.2.2 28 _ rfl).1 (lv_at hl 4 rfl) ?_
  refine kt_put (v := .ref a4) (fs' := [.ref a2, .ref a3, .ref a4, .ref a1, .null, .ref q7, .int 0, .int 0, .int 0, .int 0, .int 0, .int 0, .long 0, .long 0, .int 0]) E kf_Li_2 hK hP hD hS (ok_Li_init.2.2.2.2.2 30 _ rfl).1 rfl rfl (Nat.le_of_ble_eq_true rfl) rfl (fun H locs hP hD hS => ?_)
  refine lv_aload_n hx hb (ok_Li_init.2.2.2.2.2 33 _ rfl).1 rfl (lv_at hl 0 rfl) ?_
  refine kt_new (ci := 2) (fs := [.null, .int 0, .int 0, .int 0]) (cells' := 2) (slots' := 10) E ck_Cu rfl kw_451 kw_151 kw_116 t_Cu ty_Cu (by decide) hK hP hD hS hA rfl rfl (Nat.le_of_ble_eq_true rfl) (Nat.le_of_ble_eq_true rfl) (ok_Li_init.2.2.2.2.2 34 _ rfl).1 (fun q34 H hP hD hS => ?_)
  refine lv_dup hx hb (ok_Li_init.2.2.2.2.2 37 _ rfl).1 rfl ?_
  refine lv_aload_n hx hb (ok_Li_init.2.2.2.2.2 38 _ rfl).1 rfl (lv_at hl 1 rfl) ?_
  refine kt_call (ws := [(h0, .inr (9, [.ref a2, .ref a3, .ref a4, .ref a1, .null, .ref q7, .int 0, .int 0, .int 0, .int 0, .int 0, .int 0, .long 0, .long 0, .int 0])), (q7, .inl (ca 0, 6, kt_zI))]) (wo := wo_Cu_init q34 a1 ca) (cells' := 2) (slots' := 10) (fun hp => va_runI (As := [.ref a1]) (rest := [.ref q34, .ref h0]) ⟨hx, hb, hml, hown, hts⟩ (k_Cu_init l dC dI ca q34 a1 H.size) (cwI 1 hts (kt_good sys_c kg_Cu_init) rfl rfl rfl (htw _ kw_116) (htw _ kw_452) (htw _ kw_153) rfl kd_Cu_init ⟨(Nat.le_of_ble_eq_true rfl), (Nat.le_of_ble_eq_true rfl)⟩) hp rfl rfl hl.1 rfl (lv_room (Nat.le_of_ble_eq_true rfl)) (ok_Li_init.2.2.2.2.2 39 _ rfl).1 ⟨(Nat.le_of_ble_eq_true rfl), (Nat.le_of_ble_eq_true rfl)⟩) hK hN hP hD hS hA rfl rfl (fun u39 H locs hP hD hS => ?_)
  have hP : va_P (dC, dI) cl_c [(h0, .inr (9, [.ref a2, .ref a3, .ref a4, .ref a1, .null, .ref q7, .int 0, .int 0, .int 0, .int 0, .int 0, .int 0, .long 0, .long 0, .int 0])), (q7, .inl (ca 0, 6, kt_zI)), (q34, .inr (2, [.ref a1, .int 0, .int 0, .int 0]))] H := hP
  have hD : va_D A [(h0, .inr (9, [.ref a2, .ref a3, .ref a4, .ref a1, .null, .ref q7, .int 0, .int 0, .int 0, .int 0, .int 0, .int 0, .long 0, .long 0, .int 0])), (q7, .inl (ca 0, 6, kt_zI)), (q34, .inr (2, [.ref a1, .int 0, .int 0, .int 0]))] := hD
  refine kt_put (v := .ref q34) (fs' := [.ref a2, .ref a3, .ref a4, .ref a1, .ref q34, .ref q7, .int 0, .int 0, .int 0, .int 0, .int 0, .int 0, .long 0, .long 0, .int 0]) E kf_Li_4 hK hP hD hS (ok_Li_init.2.2.2.2.2 42 _ rfl).1 rfl rfl (Nat.le_of_ble_eq_true rfl) rfl (fun H locs hP hD hS => ?_)
  have hP9 : va_P (dC, dI) cl_c (wo_Li_init h0 a1 a2 a3 a4 ca (fun i => ([q7, q34] : List Nat).getD i 0)) H := hP
  have hD9 : va_D A (wo_Li_init h0 a1 a2 a3 a4 ca (fun i => ([q7, q34] : List Nat).getD i 0)) := hD
  exact W.vret hx hb hr (fun t ht hW => ⟨⟨(fun i => ([q7, q34] : List Nat).getD i 0), rfl, trivial, by rw [ht]; exact hP9, va_K.moved hW.alike hK, hD9⟩, hS.F ht⟩) hS.2.2 (ok_Li_init.2.2.2.2.2 45 _ rfl).1
