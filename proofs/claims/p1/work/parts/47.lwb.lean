/-! the law's beginning (mod_l.py) -/
theorem lw_known {s : State} {args : Array Value} {cl : List vw_C} (htw : ∀ w ∈ tw_, w.before args s = true) (hc : am_cok cl tw_) (hi : ∀ (ci : Nat) (q : vw_C), cl[ci]? = some q → ∃ n, Cond.instantiable q.1 n ∈ tw_) : ∃ D : va_G, ∀ (c : Nat) (q : vw_C), cl[c]? = some q → u_Kn s q.1 q.2.1 q.2.2 (D.1 c) (D.2 c) := by
  have h : ∀ c : Nat, ∃ x : ClassId × (Nat → Nat), ∀ q, cl[c]? = some q → u_Kn s q.1 q.2.1 q.2.2 x.1 x.2 := by
    intro c
    cases hq : cl[c]? with
    | none => exact ⟨(0, fun _ => 0), fun q h => by cases h⟩
    | some q =>
      obtain ⟨n, hn⟩ := hi c q hq
      obtain ⟨cC, iS, hu⟩ := u_known (N := q.2.2) htw (hc c q hq).1 (htw _ hn)
      exact ⟨(cC, iS), fun q' h => by cases h; exact hu⟩
  obtain ⟨F, hF⟩ := Classical.axiomOfChoice h
  exact ⟨(fun c => (F c).1, fun c => (F c).2), fun c q hq => hF c q hq⟩
theorem lw_arr {s : State} {args : Array Value} (htw : ∀ w ∈ tw_, w.before args s = true) (w0 : Cond.arrayClass .int ∈ tw_) (w1 : Cond.arrayClass .long ∈ tw_) (w2 : Cond.arrayClass .byte ∈ tw_) (w3 : Cond.arrayClass .boolean ∈ tw_) : ∃ ca : Nat → ClassId, ∀ (k : Nat) (q : ClassId × FieldType), (am_tys ca)[k]? = some q → ArrOfT s q.1 q.2 ∧ va_RA s q.1 q.2 := by
  have one : ∀ ty : FieldType, Cond.arrayClass ty ∈ tw_ → (∀ cA, s.vm.findClass ("[" ++ ty.toString) = some cA → va_RA s cA ty) → ∃ cA, ArrOfT s cA ty ∧ va_RA s cA ty := by
    intro ty hw hr
    obtain ⟨cA, kA, comp, h1, h2, h3⟩ := Cond.arrayClass_spec (htw _ hw)
    exact ⟨cA, fun n z => ⟨fun k h => (by cases h), kA, h2, comp, h3⟩, hr cA h1⟩
  obtain ⟨c0, h0⟩ := one .int w0 (fun _ h => h)
  obtain ⟨c1, h1⟩ := one .long w1 (fun _ h => h)
  obtain ⟨c2, h2⟩ := one .byte w2 (fun _ h => h)
  obtain ⟨c3, h3⟩ := one .boolean w3 (fun _ h => h)
  refine ⟨fun k => match k with | 0 => c0 | 1 => c1 | 2 => c2 | _ => c3, fun k q hk => ?_⟩
  match k, hk with
  | 0, hk => cases hk; exact h0
  | 1, hk => cases hk; exact h1
  | 2, hk => cases hk; exact h2
  | 3, hk => cases hk; exact h3
  | n + 4, hk => simp [am_tys] at hk
theorem lw_good {S : am_Sy} {M2 : am_Me} (ht : am_tw S = tw_) (h : Cond.code (am_nm M2) (am_cc M2) (am_mx M2) (am_rt M2) ∈ tw_) : GoodIn tw_ (am_wm S M2) := by
  intro w hw
  have h1 : w ∈ tw_ := by
    rcases List.mem_cons.mp hw with e | e
    · rw [e]; exact h
    · rw [ht] at e; exact e
  exact ⟨h1, good_of_word ((List.mem_filter.mp h1).2)⟩
theorem lw_nil {D : va_G} {cl : List vw_C} {H : Heap} : va_P D cl [] H := fun k q h => by simp at h
theorem lw_nilD {A : Nat → Prop} : va_D A [] := ⟨fun i j p q h => by simp at h, fun k q h => by simp at h⟩
theorem la_0 : Cond.arrayClass .int ∈ tw_ := (am_in_g (tl := lw_tbl) (h := 184) (w := .arrayClass .int) (by decide +kernel) rfl)
theorem la_1 : Cond.arrayClass .long ∈ tw_ := (am_in_g (tl := lw_tbl) (h := 185) (w := .arrayClass .long) (by decide +kernel) rfl)
theorem la_2 : Cond.arrayClass .byte ∈ tw_ := (am_in_g (tl := lw_tbl) (h := 183) (w := .arrayClass .byte) (by decide +kernel) rfl)
theorem la_3 : Cond.arrayClass .boolean ∈ tw_ := (am_in_g (tl := lw_tbl) (h := 186) (w := .arrayClass .boolean) (by decide +kernel) rfl)
theorem li_c : ∀ (ci : Nat) (q : vw_C), cl_c[ci]? = some q → ∃ n, Cond.instantiable q.1 n ∈ tw_ := by
  intro ci q hq
  match ci, hq with
  | 0, hq => cases hq; exact ⟨13, (am_in_g (tl := lw_tbl) (h := 137) (w := .instantiable R_F 13) (by decide +kernel) rfl)⟩
  | 1, hq => cases hq; exact ⟨11, (am_in_g (tl := lw_tbl) (h := 145) (w := .instantiable R_Se 11) (by decide +kernel) rfl)⟩
  | 2, hq => cases hq; exact ⟨4, (am_in_g (tl := lw_tbl) (h := 151) (w := .instantiable R_Cu 4) (by decide +kernel) rfl)⟩
  | 3, hq => cases hq; exact ⟨12, (am_in_g (tl := lw_tbl) (h := 223) (w := .instantiable R_En 12) (by decide +kernel) rfl)⟩
  | 4, hq => cases hq; exact ⟨7, (am_in_g (tl := lw_tbl) (h := 288) (w := .instantiable R_Ur 7) (by decide +kernel) rfl)⟩
  | 5, hq => cases hq; exact ⟨8, (am_in_g (tl := lw_tbl) (h := 294) (w := .instantiable R_Ab 8) (by decide +kernel) rfl)⟩
  | 6, hq => cases hq; exact ⟨5, (am_in_g (tl := lw_tbl) (h := 355) (w := .instantiable R_Ra 5) (by decide +kernel) rfl)⟩
  | 7, hq => cases hq; exact ⟨7, (am_in_g (tl := lw_tbl) (h := 379) (w := .instantiable R_Va 7) (by decide +kernel) rfl)⟩
  | 8, hq => cases hq; exact ⟨9, (am_in_g (tl := lw_tbl) (h := 409) (w := .instantiable R_Ro 9) (by decide +kernel) rfl)⟩
  | 9, hq => cases hq; exact ⟨15, (am_in_g (tl := lw_tbl) (h := 446) (w := .instantiable R_Li 15) (by decide +kernel) rfl)⟩
  | 10, hq => cases hq; exact ⟨7, (am_in_g (tl := lw_tbl) (h := 500) (w := .instantiable R_Sy 7) (by decide +kernel) rfl)⟩
  | 11, hq => cases hq; exact ⟨12, (am_in_g (tl := lw_tbl) (h := 532) (w := .instantiable R_Fr 12) (by decide +kernel) rfl)⟩
  | n + 12, hq => simp [cl_c] at hq
theorem li_m : ∀ (ci : Nat) (q : vw_C), cl_m[ci]? = some q → ∃ n, Cond.instantiable q.1 n ∈ tw_ := by
  intro ci q hq
  match ci, hq with
  | 0, hq => cases hq; exact ⟨60, (am_in_g (tl := lw_tbl) (h := 1264) (w := .instantiable R_Mo 60) (by decide +kernel) rfl)⟩
  | n + 1, hq => simp [cl_m] at hq
set_option maxHeartbeats 4000000 in
set_option maxRecDepth 100000 in
theorem lw_begin {p : Program} {l : Launch} {e : Env} {R : Room} {s : State} {m : MethodId} {args : Array Value} {below : List Frame} {meth : Method} {c : Code} {Q : State → Prop} {dC mC : Nat → ClassId} {dI mI : Nat → Nat → Nat} {ca : Nat → ClassId} {ls : Array Slot} {b : Nat}
    (hx : p.tables.exec = Jvm.exec) (hb : c.code = code) (hml : c.maxLocals = 7) (hown : s.vm.findClass "FrameFinderLaw" = some m.cls) (htw : ∀ w ∈ tw_, w.before args s = true) (hN : ∀ w ∈ nw_, va_Nw w s) (hK : va_K (dC, dI) cl_c (am_tys ca) s) (hKm : va_K (mC, mI) cl_m (am_tys ca) s) (hl : lv_has ls 7 [(0, .ref b)]) (hR : 13 ≤ R.frames ∧ 482 ≤ R.locals) (hc : 100 ≤ R.cells) (hs : 24231 ≤ R.slots)
    (kk : ∀ (ux um : Nat → Nat) (q0 q1 ao n1 n2 : Nat) (H : Heap) (locs : List Loc) (ls : Array Slot), va_P (dC, dI) cl_c (wo_F_init q0 ca ux) H → va_D (fun q => s.heap.size ≤ q) (wo_F_init q0 ca ux) → va_P (mC, mI) cl_m (wo_Mo_init q1 ca um) H → va_D (fun q => s.heap.size ≤ q) (wo_Mo_init q1 ca um) → H[ao]? = some (vp_cell (ca 1) (1, .inr (.inl (fun _ => 0)))) → (∀ (k : Nat) (q : Nat × va_E), (wo_F_init q0 ca ux)[k]? = some q → q.1 < n1) → (∀ (k : Nat) (q : Nat × va_E), (wo_Mo_init q1 ca um)[k]? = some q → n1 ≤ q.1 ∧ q.1 < n2) → n1 ≤ n2 → n2 ≤ ao → s.heap.size ≤ n1 → va_S (fun q => s.heap.size ≤ q) s.heap H locs → lv_has ls 7 [(4, .int 0), (3, .ref ao), (2, .ref q1), (1, .ref q0), (0, .ref b)] →
      W p l e R s m args below meth c H locs 100 24231 Q (F0 m 23 ls [])) : W p l e R s m args below meth c s.heap [] 0 0 Q (F0 m 0 ls []) := by
  refine va_new (ci := 0) (fs := [.null, .null, .null, .null, .null, .null, .null, .null, .null, .null, .int 0, .int 0, .int 0]) (C := R_F) (T := F_F) (N := 13) (A := fun q => s.heap.size ≤ q) hx hb htw ly_F t_F ty_F hown (htw _ (am_in_g (tl := lw_tbl) (h := 136) (w := .classLink "FrameFinderLaw" 8 R_F) (by decide +kernel) rfl)) (htw _ (am_in_g (tl := lw_tbl) (h := 137) (w := .instantiable R_F 13) (by decide +kernel) rfl)) (htw _ (am_in_g (tl := lw_tbl) (h := 114) (w := .initialized R_F) (by decide +kernel) rfl)) hK lw_nil lw_nilD va_S.rf (fun q h => h) rfl (by decide) (by omega) (by omega) dl_0 (fun q0 H1 hP1 hD1 hS1 => ?_)
  refine lv_dup hx hb dl_3 rfl ?_
  refine kt_call (ws := []) (wo := wo_F_init q0 ca) (cells' := 65) (slots' := 11550) (fun hp => va_runI (As := []) (rest := [.ref q0]) ⟨hx, hb, hml, hown, htw⟩ (k_F_init l dC dI ca q0 H1.size) (cwI 0 htw (lw_good ht_c (am_in_g (tl := lw_tbl) (h := 140) (w := .code (am_nm M_F_init) (am_cc M_F_init) (am_mx M_F_init) (am_rt M_F_init)) (by decide +kernel) rfl)) rfl rfl rfl (htw _ (am_in_g (tl := lw_tbl) (h := 114) (w := .initialized R_F) (by decide +kernel) rfl)) (htw _ (am_in_g (tl := lw_tbl) (h := 138) (w := .methodLink "FrameFinderLaw" 21 (am_nm M_F_init)) (by decide +kernel) rfl)) (htw _ (am_in_g (tl := lw_tbl) (h := 139) (w := .instanceMethod (am_nm M_F_init)) (by decide +kernel) rfl)) rfl ⟨by decide +kernel, by decide +kernel, by decide +kernel⟩ ⟨Nat.le_trans (Nat.le_of_ble_eq_true rfl) hR.1, Nat.le_trans (Nat.le_of_ble_eq_true rfl) hR.2⟩) hp rfl rfl hl.1 rfl (lv_room (Nat.le_of_ble_eq_true rfl)) dl_4 ⟨by show 0 + 1 + 64 ≤ _; omega, by show 0 + 13 + 11537 ≤ _; omega⟩) hK hN hP1 hD1 hS1 (fun q h => h) rfl rfl (fun ux H2 locs2 hP2 hD2 hS2 => ?_)
  refine lv_astore_n (i := 1) (lv' := [(1, .ref q0), (0, .ref b)]) hx hb dl_7 rfl hl (by decide) rfl (fun ls hl => ?_)
  refine va_forget (fun q hq => hS2.2.2 q hq) ?_
  refine va_new (ci := 0) (fs := [.null, .int 0, .null, .int 0, .int 0, .int 0, .int 0, .int 0, .int 0, .int 0, .null, .null, .null, .int 0, .null, .null, .null, .null, .null, .null, .null, .int 0, .int 0, .int 0, .null, .null, .null, .null, .null, .null, .null, .null, .null, .int 0, .null, .null, .null, .long 0, .int 0, .null, .null, .null, .null, .null, .null, .null, .null, .long 0, .long 0, .int 0, .int 0, .int 0, .int 0, .int 0, .int 0, .int 0, .int 0, .int 0, .null, .long 0]) (C := R_Mo) (T := F_Mo) (N := 60) (A := fun q => H2.size ≤ q) (H0 := H2) hx hb htw ly_Mo t_Mo ty_Mo hown (htw _ (am_in_g (tl := lw_tbl) (h := 1263) (w := .classLink "FrameFinderLaw" 22 R_Mo) (by decide +kernel) rfl)) (htw _ (am_in_g (tl := lw_tbl) (h := 1264) (w := .instantiable R_Mo 60) (by decide +kernel) rfl)) (htw _ (am_in_g (tl := lw_tbl) (h := 126) (w := .initialized R_Mo) (by decide +kernel) rfl)) hKm lw_nil lw_nilD va_S.rf (fun q h => h) rfl (by decide) (by omega) (by omega) dl_8 (fun q1 H3 hP3 hD3 hS3 => ?_)
  refine lv_dup hx hb dl_11 rfl ?_
  refine kt_call (ws := []) (wo := wo_Mo_init q1 ca) (cells' := 99) (slots' := 24230) (fun hp => va_runI (As := []) (rest := [.ref q1]) ⟨hx, hb, hml, hown, htw⟩ (k_Mo_init l mC mI ca q1 H3.size) (cwI 0 htw (lw_good ht_m (am_in_g (tl := lw_tbl) (h := 1267) (w := .code (am_nm M_Mo_init) (am_cc M_Mo_init) (am_mx M_Mo_init) (am_rt M_Mo_init)) (by decide +kernel) rfl)) rfl rfl rfl (htw _ (am_in_g (tl := lw_tbl) (h := 126) (w := .initialized R_Mo) (by decide +kernel) rfl)) (htw _ (am_in_g (tl := lw_tbl) (h := 1265) (w := .methodLink "FrameFinderLaw" 24 (am_nm M_Mo_init)) (by decide +kernel) rfl)) (htw _ (am_in_g (tl := lw_tbl) (h := 1266) (w := .instanceMethod (am_nm M_Mo_init)) (by decide +kernel) rfl)) rfl ⟨by decide +kernel, by decide +kernel, by decide +kernel⟩ ⟨Nat.le_trans (Nat.le_of_ble_eq_true rfl) hR.1, Nat.le_trans (Nat.le_of_ble_eq_true rfl) hR.2⟩) hp rfl rfl hl.1 rfl (lv_room (Nat.le_of_ble_eq_true rfl)) dl_12 ⟨by show 65 + 1 + 33 ≤ _; omega, by show 11550 + 60 + 12620 ≤ _; omega⟩) hKm hN hP3 hD3 hS3 (fun q h => h) rfl rfl (fun um H4 locs4 hP4 hD4 hS4 => ?_)
  refine lv_astore_n (i := 2) (lv' := [(2, .ref q1), (1, .ref q0), (0, .ref b)]) hx hb dl_15 rfl hl (by decide) rfl (fun ls hl => ?_)
  have hS2' := hS2.1
  refine va_forget (fun q hq => Nat.le_trans hS2' (hS4.2.2 q hq)) ?_
  refine lv_iconst (v := 1) hx hb dl_16 (by decide) ?_
  refine va_newa (atype := .long) (ty := .long) (N' := 1) (a0 := (1, .inr (.inl (fun _ => 0)))) (A := fun q => H4.size ≤ q) (H0 := H4) hx hb (htw _ la_1) rfl hK lw_nil lw_nilD va_S.rf (fun q h => h) (fun _ => rfl) (by decide) (by decide) (by decide) (by omega) (by omega) dl_17 (fun ao cA H5 hK5 hP5 hD5 hS5 => ?_)
  have h1 := (hK5.2 4 (cA, .long) (by simp [am_tys])).2
  have h2 := (hK.2 1 (ca 1, .long) rfl).2
  have e9 := kt_ty (ty := .long) (by decide) h1 h2
  subst e9
  refine lv_astore_n (i := 3) (lv' := [(3, .ref ao), (2, .ref q1), (1, .ref q0), (0, .ref b)]) hx hb dl_19 rfl hl (by decide) rfl (fun ls hl => ?_)
  refine lv_iconst (v := 0) hx hb dl_20 (by decide) ?_
  refine lv_istore (lv' := [(4, .int 0), (3, .ref ao), (2, .ref q1), (1, .ref q0), (0, .ref b)]) hx hb dl_21 hl (by decide) rfl (fun ls hl => ?_)
  have hS4' : H2.size ≤ H4.size := hS4.1
  have hF : ∀ q : Nat, q < H2.size → H5[q]? = H2[q]? := fun q hq => by
    rw [hS5.2.1 q (Nat.lt_of_lt_of_le hq hS4.1) (by omega), hS4.2.1 q hq (by omega)]
  have hM : ∀ q : Nat, q < H4.size → H5[q]? = H4[q]? := fun q hq => hS5.2.1 q hq (by omega)
  have hP2' : va_P (dC, dI) cl_c (wo_F_init q0 ca ux) H2 := hP2
  have hP4' : va_P (mC, mI) cl_m (wo_Mo_init q1 ca um) H4 := hP4
  have hD4' : va_D (fun q => H2.size ≤ q) (wo_Mo_init q1 ca um) := hD4
  refine kk ux um q0 q1 ao H2.size H4.size H5 [] ls (hP2'.kept (fun k q hk => hF _ (lw_lt hP2' hk))) hD2 (hP4'.kept (fun k q hk => hM _ (lw_lt hP4' hk))) (hD4'.weaken (fun k q _ h => Nat.le_trans hS2' h)) (hP5 0 _ rfl) (fun k q hk => lw_lt hP2' hk) (fun k q hk => ⟨hD4'.2 k q hk, lw_lt hP4' hk⟩) hS4.1 (hD5.2 0 _ rfl) hS2' ?_ hl
  refine ⟨Nat.le_trans hS2' (Nat.le_trans hS4.1 hS5.1), fun q h1 h2 => ?_, fun _ h => by cases h⟩
  rw [hF q (Nat.lt_of_lt_of_le h1 hS2')]
  exact hS2.2.1 q h1 h2
