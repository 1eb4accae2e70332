/-! words and fields for the constructors (mod_k.py) -/
theorem kt_get {p : Program} {l : Launch} {e : Env} {R : Room} {s : State} {m : MethodId} {args : Array Value} {below : List Frame} {meth : Method} {c : Code} {H : Heap} {locs : List Loc} {cells slots : Nat} {Q : State → Prop} {cc : ByteArray} {pc : Nat} {ls : Array Slot} {rest : List Value} {D : va_G} {cl : List vw_C} {ws : va_W} {ca : Nat → ClassId} {own : String}
    (E : kt_E cc own p s m args meth c) {C : String} {T : u_T} {N ci j index : Nat} {ty : FieldType} (hf : kt_F cl ci j own C T N index ty) {h0 : Nat} {fs : List Value} (hK : va_K D cl (am_tys ca) s) (hP : va_P D cl ((h0, .inr (ci, fs)) :: ws) H) {v : Value} (hv : fs[j]? = some v) (hdg : decode cc pc = .ok (.getfield index, 3))
    (kk : W p l e R s m args below meth c H locs cells slots Q (F0 m (pc + 3) ls (v :: rest))) : W p l e R s m args below meth c H locs cells slots Q (F0 m pc ls (.ref h0 :: rest)) :=
  va_get E.1 E.2.1 E.2.2.2.1 hf.1.1 E.2.2.1 hK hP 0 rfl hf.2.1 j hf.2.2.1 (E.2.2.2.1 _ hf.2.2.2.1) (fun x h => by rw [hf.2.2.2.2.2.1] at h; exact h) hv hdg kk
def kt_li (L : List Int64) : (Nat → Int32) ⊕ (Nat → Int64) ⊕ (Nat → UInt32) ⊕ (Nat → UInt64) ⊕ (Nat → Option Nat) := .inr (.inl (fun j => L.getD j 0))
theorem kt_upd (L : List Int64) (v : Int64) : vp_updL (fun j => L.getD j 0) L.length v = fun j => (L ++ [v]).getD j 0 := by
  funext j
  unfold vp_updL
  by_cases h : j = L.length
  · subst h
    simp
  · simp only [h, if_false]
    by_cases h2 : j < L.length
    · simp [List.getD, List.getElem?_append_left h2]
    · have h3 : L.length < j := by omega
      simp only [List.getD]
      rw [List.getElem?_eq_none (by omega), List.getElem?_eq_none (by simp; omega)]
/-- one element of an array's initializer -/
theorem kt_st {p : Program} {l : Launch} {e : Env} {R : Room} {s : State} {m : MethodId} {args : Array Value} {below : List Frame} {meth : Method} {c : Code} {H H0 : Heap} {locs : List Loc} {cells slots : Nat} {Q : State → Prop} {cc : ByteArray} {pc : Nat} {ls : Array Slot} {rest : List Value} {D : va_G} {cl : List vw_C} {A : Nat → Prop} {ca : Nat → ClassId} {own : String}
    (E : kt_E cc own p s m args meth c) {a n pc2 pc3 : Nat} {x0 : Nat × va_E} {L L' : List Int64} {i : Int32} {v : Int64} (hK : va_K D cl (am_tys ca) s) (hP : va_P D cl [x0, (a, .inl (ca 1, n, kt_li L))] H) (hD : va_D A [x0, (a, .inl (ca 1, n, kt_li L))]) (hS : va_S A H0 H locs)
    (d0 : decode cc pc = .ok (.dup, 1)) (hp : kt_pu cc (pc + 1) i pc2) (hc : (∃ index : Nat, Cond.constantLong own index v ∈ tw_ ∧ decode cc pc2 = .ok (.ldc2_w index, 3) ∧ pc3 = pc2 + 3) ∨ (∃ k : Fin 2, decode cc pc2 = .ok (.lconst k, 1) ∧ Int64.ofNat (k : Nat) = v ∧ pc3 = pc2 + 1)) (hin : (!decide (i < 0) && decide (i.toNatClampNeg = L.length) && decide (L.length < n)) = true) (d3 : decode cc pc3 = .ok (.lastore, 1)) (hL : L ++ [v] = L')
    (kk : ∀ (H1 : Heap) (locs1 : List Loc), va_P D cl [x0, (a, .inl (ca 1, n, kt_li L'))] H1 → va_D A [x0, (a, .inl (ca 1, n, kt_li L'))] → va_S A H0 H1 locs1 → W p l e R s m args below meth c H1 locs1 cells slots Q (F0 m (pc3 + 1) ls (.ref a :: rest))) : W p l e R s m args below meth c H locs cells slots Q (F0 m pc ls (.ref a :: rest)) := by
  simp only [Bool.and_eq_true, Bool.not_eq_true', decide_eq_false_iff_not, decide_eq_true_eq] at hin
  obtain ⟨⟨i1, i2⟩, i3⟩ := hin
  have last : W p l e R s m args below meth c H locs cells slots Q (F0 m pc3 ls (.long v :: .int i :: .ref a :: .ref a :: rest)) := by
    refine va_last (n := n) E.1 E.2.1 hK hP hD hS 1 1 rfl rfl (fun h9 => h9.elim i1 (fun h8 => by omega)) d3 (fun H1 locs1 h1 h2 h3 => ?_)
    rw [i2, kt_upd, hL] at h1 h2
    exact kk H1 locs1 h1 h2 h3
  refine lv_dup E.1 E.2.1 d0 rfl ?_
  refine kt_push E.1 E.2.1 hp ?_
  rcases hc with ⟨index, c1, c2, rfl⟩ | ⟨k, c1, c2, rfl⟩
  · exact lv_ldc2 E.1 E.2.1 E.2.2.1 (E.2.2.2.1 _ c1) c2 last
  · exact lv_lconst E.1 E.2.1 c1 c2 last
theorem kf_Cu_0 : kt_F cl_c 2 0 R_Cu R_Cu F_Cu 4 9 (.array .byte) := ⟨ck_Cu, rfl, by decide, am_in_g (h := 156) (by decide +kernel) rfl, rfl, rfl, by decide +kernel⟩
theorem kf_Ab_0 : kt_F cl_c 5 0 R_Ab R_Ab F_Ab 8 9 (.array .long) := ⟨ck_Ab, rfl, by decide, am_in_g (h := 299) (by decide +kernel) rfl, rfl, rfl, by decide +kernel⟩
theorem kf_Ab_1 : kt_F cl_c 5 1 R_Ab R_Ab F_Ab 8 15 (.array .long) := ⟨ck_Ab, rfl, by decide, am_in_g (h := 300) (by decide +kernel) rfl, rfl, rfl, by decide +kernel⟩
theorem kf_Ab_2 : kt_F cl_c 5 2 R_Ab R_Ab F_Ab 8 18 (.array .boolean) := ⟨ck_Ab, rfl, by decide, am_in_g (h := 302) (by decide +kernel) rfl, rfl, rfl, by decide +kernel⟩
theorem kf_Ab_3 : kt_F cl_c 5 3 R_Ab R_Ab F_Ab 8 22 (.array .int) := ⟨ck_Ab, rfl, by decide, am_in_g (h := 304) (by decide +kernel) rfl, rfl, rfl, by decide +kernel⟩
theorem kf_Ab_4 : kt_F cl_c 5 4 R_Ab R_Ab F_Ab 8 26 (.array .long) := ⟨ck_Ab, rfl, by decide, am_in_g (h := 306) (by decide +kernel) rfl, rfl, rfl, by decide +kernel⟩
theorem kf_Ab_5 : kt_F cl_c 5 5 R_Ab R_Ab F_Ab 8 29 (.array .int) := ⟨ck_Ab, rfl, by decide, am_in_g (h := 308) (by decide +kernel) rfl, rfl, rfl, by decide +kernel⟩
theorem kf_Ab_6 : kt_F cl_c 5 6 R_Ab R_Ab F_Ab 8 32 (.array .long) := ⟨ck_Ab, rfl, by decide, am_in_g (h := 310) (by decide +kernel) rfl, rfl, rfl, by decide +kernel⟩
theorem kf_Se_2 : kt_F cl_c 1 2 R_Se R_Se F_Se 11 9 (.array .int) := ⟨ck_Se, rfl, by decide, am_in_g (h := 189) (by decide +kernel) rfl, rfl, rfl, by decide +kernel⟩
theorem kf_Se_3 : kt_F cl_c 1 3 R_Se R_Se F_Se 11 15 (.array .int) := ⟨ck_Se, rfl, by decide, am_in_g (h := 190) (by decide +kernel) rfl, rfl, rfl, by decide +kernel⟩
theorem kf_Se_4 : kt_F cl_c 1 4 R_Se R_Se F_Se 11 18 (.array .long) := ⟨ck_Se, rfl, by decide, am_in_g (h := 191) (by decide +kernel) rfl, rfl, rfl, by decide +kernel⟩
theorem kf_Se_5 : kt_F cl_c 1 5 R_Se R_Se F_Se 11 22 (.array .int) := ⟨ck_Se, rfl, by decide, am_in_g (h := 192) (by decide +kernel) rfl, rfl, rfl, by decide +kernel⟩
theorem kf_Se_6 : kt_F cl_c 1 6 R_Se R_Se F_Se 11 25 (.array .int) := ⟨ck_Se, rfl, by decide, am_in_g (h := 193) (by decide +kernel) rfl, rfl, rfl, by decide +kernel⟩
theorem kf_Se_7 : kt_F cl_c 1 7 R_Se R_Se F_Se 11 28 (.array .boolean) := ⟨ck_Se, rfl, by decide, am_in_g (h := 194) (by decide +kernel) rfl, rfl, rfl, by decide +kernel⟩
theorem kf_Se_0 : kt_F cl_c 1 0 R_Se R_Se F_Se 11 32 (.array .byte) := ⟨ck_Se, rfl, by decide, am_in_g (h := 187) (by decide +kernel) rfl, rfl, rfl, by decide +kernel⟩
theorem kf_Se_1 : kt_F cl_c 1 1 R_Se R_Se F_Se 11 41 (.object "FrameFinder$Cursor") := ⟨ck_Se, rfl, by decide, am_in_g (h := 188) (by decide +kernel) rfl, rfl, rfl, by decide +kernel⟩
theorem kf_En_0 : kt_F cl_c 3 0 R_En R_En F_En 12 9 (.array .long) := ⟨ck_En, rfl, by decide, am_in_g (h := 228) (by decide +kernel) rfl, rfl, rfl, by decide +kernel⟩
theorem kf_En_1 : kt_F cl_c 3 1 R_En R_En F_En 12 15 (.array .int) := ⟨ck_En, rfl, by decide, am_in_g (h := 231) (by decide +kernel) rfl, rfl, rfl, by decide +kernel⟩
theorem kf_En_2 : kt_F cl_c 3 2 R_En R_En F_En 12 19 (.array .int) := ⟨ck_En, rfl, by decide, am_in_g (h := 234) (by decide +kernel) rfl, rfl, rfl, by decide +kernel⟩
theorem kf_En_3 : kt_F cl_c 3 3 R_En R_En F_En 12 22 (.array .int) := ⟨ck_En, rfl, by decide, am_in_g (h := 237) (by decide +kernel) rfl, rfl, rfl, by decide +kernel⟩
theorem kf_En_4 : kt_F cl_c 3 4 R_En R_En F_En 12 25 (.array .int) := ⟨ck_En, rfl, by decide, am_in_g (h := 239) (by decide +kernel) rfl, rfl, rfl, by decide +kernel⟩
theorem kf_En_5 : kt_F cl_c 3 5 R_En R_En F_En 12 28 (.array .long) := ⟨ck_En, rfl, by decide, am_in_g (h := 241) (by decide +kernel) rfl, rfl, rfl, by decide +kernel⟩
theorem kf_En_6 : kt_F cl_c 3 6 R_En R_En F_En 12 31 (.array .int) := ⟨ck_En, rfl, by decide, am_in_g (h := 243) (by decide +kernel) rfl, rfl, rfl, by decide +kernel⟩
theorem kf_En_7 : kt_F cl_c 3 7 R_En R_En F_En 12 34 (.array .int) := ⟨ck_En, rfl, by decide, am_in_g (h := 245) (by decide +kernel) rfl, rfl, rfl, by decide +kernel⟩
theorem kf_En_8 : kt_F cl_c 3 8 R_En R_En F_En 12 37 (.array .int) := ⟨ck_En, rfl, by decide, am_in_g (h := 247) (by decide +kernel) rfl, rfl, rfl, by decide +kernel⟩
theorem kf_En_9 : kt_F cl_c 3 9 R_En R_En F_En 12 40 (.array .long) := ⟨ck_En, rfl, by decide, am_in_g (h := 250) (by decide +kernel) rfl, rfl, rfl, by decide +kernel⟩
theorem kf_Ur_0 : kt_F cl_c 4 0 R_Ur R_Ur F_Ur 7 9 (.object "FrameFinder$Sections") := ⟨ck_Ur, rfl, by decide, am_in_g (h := 332) (by decide +kernel) rfl, rfl, rfl, by decide +kernel⟩
theorem kf_Ur_1 : kt_F cl_c 4 1 R_Ur R_Ur F_Ur 7 15 (.object "FrameFinder$Entries") := ⟨ck_Ur, rfl, by decide, am_in_g (h := 333) (by decide +kernel) rfl, rfl, rfl, by decide +kernel⟩
theorem kf_Ur_2 : kt_F cl_c 4 2 R_Ur R_Ur F_Ur 7 22 (.object "FrameFinder$Abbreviations") := ⟨ck_Ur, rfl, by decide, am_in_g (h := 334) (by decide +kernel) rfl, rfl, rfl, by decide +kernel⟩
theorem kf_Ur_3 : kt_F cl_c 4 3 R_Ur R_Ur F_Ur 7 31 (.object "FrameFinder$Cursor") := ⟨ck_Ur, rfl, by decide, am_in_g (h := 335) (by decide +kernel) rfl, rfl, rfl, by decide +kernel⟩
theorem kf_Ur_4 : kt_F cl_c 4 4 R_Ur R_Ur F_Ur 7 35 (.object "FrameFinder$Cursor") := ⟨ck_Ur, rfl, by decide, am_in_g (h := 336) (by decide +kernel) rfl, rfl, rfl, by decide +kernel⟩
theorem kf_Ra_0 : kt_F cl_c 6 0 R_Ra R_Ra F_Ra 5 9 (.array .long) := ⟨ck_Ra, rfl, by decide, am_in_g (h := 360) (by decide +kernel) rfl, rfl, rfl, by decide +kernel⟩
theorem kf_Ra_1 : kt_F cl_c 6 1 R_Ra R_Ra F_Ra 5 15 (.array .long) := ⟨ck_Ra, rfl, by decide, am_in_g (h := 361) (by decide +kernel) rfl, rfl, rfl, by decide +kernel⟩
theorem kf_Ra_2 : kt_F cl_c 6 2 R_Ra R_Ra F_Ra 5 18 (.array .int) := ⟨ck_Ra, rfl, by decide, am_in_g (h := 362) (by decide +kernel) rfl, rfl, rfl, by decide +kernel⟩
theorem kf_Ra_3 : kt_F cl_c 6 3 R_Ra R_Ra F_Ra 5 22 (.array .int) := ⟨ck_Ra, rfl, by decide, am_in_g (h := 363) (by decide +kernel) rfl, rfl, rfl, by decide +kernel⟩
theorem kf_Va_0 : kt_F cl_c 7 0 R_Va R_Va F_Va 7 9 (.object "FrameFinder$Sections") := ⟨ck_Va, rfl, by decide, am_in_g (h := 386) (by decide +kernel) rfl, rfl, rfl, by decide +kernel⟩
theorem kf_Va_1 : kt_F cl_c 7 1 R_Va R_Va F_Va 7 15 (.object "FrameFinder$Entries") := ⟨ck_Va, rfl, by decide, am_in_g (h := 387) (by decide +kernel) rfl, rfl, rfl, by decide +kernel⟩
theorem kf_Va_2 : kt_F cl_c 7 2 R_Va R_Va F_Va 7 19 (.object "FrameFinder$Ranges") := ⟨ck_Va, rfl, by decide, am_in_g (h := 388) (by decide +kernel) rfl, rfl, rfl, by decide +kernel⟩
theorem kf_Va_3 : kt_F cl_c 7 3 R_Va R_Va F_Va 7 28 (.object "FrameFinder$Cursor") := ⟨ck_Va, rfl, by decide, am_in_g (h := 389) (by decide +kernel) rfl, rfl, rfl, by decide +kernel⟩
theorem kf_Va_4 : kt_F cl_c 7 4 R_Va R_Va F_Va 7 32 (.object "FrameFinder$Cursor") := ⟨ck_Va, rfl, by decide, am_in_g (h := 390) (by decide +kernel) rfl, rfl, rfl, by decide +kernel⟩
theorem kf_Ro_0 : kt_F cl_c 8 0 R_Ro R_Ro F_Ro 9 9 (.array .long) := ⟨ck_Ro, rfl, by decide, am_in_g (h := 414) (by decide +kernel) rfl, rfl, rfl, by decide +kernel⟩
theorem kf_Ro_1 : kt_F cl_c 8 1 R_Ro R_Ro F_Ro 9 15 (.array .long) := ⟨ck_Ro, rfl, by decide, am_in_g (h := 415) (by decide +kernel) rfl, rfl, rfl, by decide +kernel⟩
theorem kf_Ro_2 : kt_F cl_c 8 2 R_Ro R_Ro F_Ro 9 18 (.array .int) := ⟨ck_Ro, rfl, by decide, am_in_g (h := 417) (by decide +kernel) rfl, rfl, rfl, by decide +kernel⟩
theorem kf_Ro_3 : kt_F cl_c 8 3 R_Ro R_Ro F_Ro 9 22 (.array .boolean) := ⟨ck_Ro, rfl, by decide, am_in_g (h := 419) (by decide +kernel) rfl, rfl, rfl, by decide +kernel⟩
theorem kf_Ro_4 : kt_F cl_c 8 4 R_Ro R_Ro F_Ro 9 26 (.array .int) := ⟨ck_Ro, rfl, by decide, am_in_g (h := 420) (by decide +kernel) rfl, rfl, rfl, by decide +kernel⟩
theorem kf_Ro_5 : kt_F cl_c 8 5 R_Ro R_Ro F_Ro 9 29 (.array .int) := ⟨ck_Ro, rfl, by decide, am_in_g (h := 421) (by decide +kernel) rfl, rfl, rfl, by decide +kernel⟩
theorem kf_Ro_6 : kt_F cl_c 8 6 R_Ro R_Ro F_Ro 9 32 (.array .int) := ⟨ck_Ro, rfl, by decide, am_in_g (h := 422) (by decide +kernel) rfl, rfl, rfl, by decide +kernel⟩
theorem kf_Ro_7 : kt_F cl_c 8 7 R_Ro R_Ro F_Ro 9 35 (.array .int) := ⟨ck_Ro, rfl, by decide, am_in_g (h := 423) (by decide +kernel) rfl, rfl, rfl, by decide +kernel⟩
theorem kf_Li_5 : kt_F cl_c 9 5 R_Li R_Li F_Li 15 9 (.array .int) := ⟨ck_Li, rfl, by decide, am_in_g (h := 458) (by decide +kernel) rfl, rfl, rfl, by decide +kernel⟩
theorem kf_Li_3 : kt_F cl_c 9 3 R_Li R_Li F_Li 15 15 (.array .byte) := ⟨ck_Li, rfl, by decide, am_in_g (h := 456) (by decide +kernel) rfl, rfl, rfl, by decide +kernel⟩
theorem kf_Li_0 : kt_F cl_c 9 0 R_Li R_Li F_Li 15 19 (.object "FrameFinder$Sections") := ⟨ck_Li, rfl, by decide, am_in_g (h := 453) (by decide +kernel) rfl, rfl, rfl, by decide +kernel⟩
theorem kf_Li_1 : kt_F cl_c 9 1 R_Li R_Li F_Li 15 23 (.object "FrameFinder$Entries") := ⟨ck_Li, rfl, by decide, am_in_g (h := 454) (by decide +kernel) rfl, rfl, rfl, by decide +kernel⟩
theorem kf_Li_2 : kt_F cl_c 9 2 R_Li R_Li F_Li 15 27 (.object "FrameFinder$Rows") := ⟨ck_Li, rfl, by decide, am_in_g (h := 455) (by decide +kernel) rfl, rfl, rfl, by decide +kernel⟩
theorem kf_Li_4 : kt_F cl_c 9 4 R_Li R_Li F_Li 15 36 (.object "FrameFinder$Cursor") := ⟨ck_Li, rfl, by decide, am_in_g (h := 457) (by decide +kernel) rfl, rfl, rfl, by decide +kernel⟩
theorem kf_Sy_2 : kt_F cl_c 10 2 R_Sy R_Sy F_Sy 7 9 (.array .int) := ⟨ck_Sy, rfl, by decide, am_in_g (h := 509) (by decide +kernel) rfl, rfl, rfl, by decide +kernel⟩
theorem kf_Sy_3 : kt_F cl_c 10 3 R_Sy R_Sy F_Sy 7 15 (.array .boolean) := ⟨ck_Sy, rfl, by decide, am_in_g (h := 511) (by decide +kernel) rfl, rfl, rfl, by decide +kernel⟩
theorem kf_Sy_4 : kt_F cl_c 10 4 R_Sy R_Sy F_Sy 7 19 (.array .long) := ⟨ck_Sy, rfl, by decide, am_in_g (h := 512) (by decide +kernel) rfl, rfl, rfl, by decide +kernel⟩
theorem kf_Sy_5 : kt_F cl_c 10 5 R_Sy R_Sy F_Sy 7 23 (.array .long) := ⟨ck_Sy, rfl, by decide, am_in_g (h := 513) (by decide +kernel) rfl, rfl, rfl, by decide +kernel⟩
theorem kf_Sy_0 : kt_F cl_c 10 0 R_Sy R_Sy F_Sy 7 26 (.object "FrameFinder$Sections") := ⟨ck_Sy, rfl, by decide, am_in_g (h := 507) (by decide +kernel) rfl, rfl, rfl, by decide +kernel⟩
theorem kf_Sy_1 : kt_F cl_c 10 1 R_Sy R_Sy F_Sy 7 35 (.object "FrameFinder$Cursor") := ⟨ck_Sy, rfl, by decide, am_in_g (h := 508) (by decide +kernel) rfl, rfl, rfl, by decide +kernel⟩
theorem kf_Fr_5 : kt_F cl_c 11 5 R_Fr R_Fr F_Fr 12 9 (.array .int) := ⟨ck_Fr, rfl, by decide, am_in_g (h := 542) (by decide +kernel) rfl, rfl, rfl, by decide +kernel⟩
theorem kf_Fr_6 : kt_F cl_c 11 6 R_Fr R_Fr F_Fr 12 15 (.array .int) := ⟨ck_Fr, rfl, by decide, am_in_g (h := 543) (by decide +kernel) rfl, rfl, rfl, by decide +kernel⟩
theorem kf_Fr_7 : kt_F cl_c 11 7 R_Fr R_Fr F_Fr 12 18 (.array .int) := ⟨ck_Fr, rfl, by decide, am_in_g (h := 545) (by decide +kernel) rfl, rfl, rfl, by decide +kernel⟩
theorem kf_Fr_8 : kt_F cl_c 11 8 R_Fr R_Fr F_Fr 12 21 (.array .int) := ⟨ck_Fr, rfl, by decide, am_in_g (h := 547) (by decide +kernel) rfl, rfl, rfl, by decide +kernel⟩
theorem kf_Fr_9 : kt_F cl_c 11 9 R_Fr R_Fr F_Fr 12 24 (.array .int) := ⟨ck_Fr, rfl, by decide, am_in_g (h := 549) (by decide +kernel) rfl, rfl, rfl, by decide +kernel⟩
theorem kf_Fr_10 : kt_F cl_c 11 10 R_Fr R_Fr F_Fr 12 27 (.array .int) := ⟨ck_Fr, rfl, by decide, am_in_g (h := 551) (by decide +kernel) rfl, rfl, rfl, by decide +kernel⟩
theorem kf_Fr_0 : kt_F cl_c 11 0 R_Fr R_Fr F_Fr 12 30 (.array .byte) := ⟨ck_Fr, rfl, by decide, am_in_g (h := 537) (by decide +kernel) rfl, rfl, rfl, by decide +kernel⟩
theorem kf_Fr_1 : kt_F cl_c 11 1 R_Fr R_Fr F_Fr 12 34 (.object "FrameFinder$Entries") := ⟨ck_Fr, rfl, by decide, am_in_g (h := 538) (by decide +kernel) rfl, rfl, rfl, by decide +kernel⟩
theorem kf_Fr_2 : kt_F cl_c 11 2 R_Fr R_Fr F_Fr 12 38 (.object "FrameFinder$Ranges") := ⟨ck_Fr, rfl, by decide, am_in_g (h := 539) (by decide +kernel) rfl, rfl, rfl, by decide +kernel⟩
theorem kf_Fr_3 : kt_F cl_c 11 3 R_Fr R_Fr F_Fr 12 42 (.object "FrameFinder$Rows") := ⟨ck_Fr, rfl, by decide, am_in_g (h := 540) (by decide +kernel) rfl, rfl, rfl, by decide +kernel⟩
theorem kf_Fr_4 : kt_F cl_c 11 4 R_Fr R_Fr F_Fr 12 46 (.object "FrameFinder$Symbols") := ⟨ck_Fr, rfl, by decide, am_in_g (h := 541) (by decide +kernel) rfl, rfl, rfl, by decide +kernel⟩
theorem kf_F_0 : kt_F cl_c 0 0 R_F R_F F_F 13 9 (.array .byte) := ⟨ck_F, rfl, by decide, am_in_g (h := 580) (by decide +kernel) rfl, rfl, rfl, by decide +kernel⟩
theorem kf_F_1 : kt_F cl_c 0 1 R_F R_F F_F 13 18 (.object "FrameFinder$Sections") := ⟨ck_F, rfl, by decide, am_in_g (h := 581) (by decide +kernel) rfl, rfl, rfl, by decide +kernel⟩
theorem kf_F_2 : kt_F cl_c 0 2 R_F R_F F_F 13 25 (.object "FrameFinder$Entries") := ⟨ck_F, rfl, by decide, am_in_g (h := 582) (by decide +kernel) rfl, rfl, rfl, by decide +kernel⟩
theorem kf_F_3 : kt_F cl_c 0 3 R_F R_F F_F 13 34 (.object "FrameFinder$UnitReader") := ⟨ck_F, rfl, by decide, am_in_g (h := 583) (by decide +kernel) rfl, rfl, rfl, by decide +kernel⟩
theorem kf_F_4 : kt_F cl_c 0 4 R_F R_F F_F 13 41 (.object "FrameFinder$Ranges") := ⟨ck_F, rfl, by decide, am_in_g (h := 584) (by decide +kernel) rfl, rfl, rfl, by decide +kernel⟩
theorem kf_F_5 : kt_F cl_c 0 5 R_F R_F F_F 13 50 (.object "FrameFinder$ValueReader") := ⟨ck_F, rfl, by decide, am_in_g (h := 585) (by decide +kernel) rfl, rfl, rfl, by decide +kernel⟩
theorem kf_F_6 : kt_F cl_c 0 6 R_F R_F F_F 13 57 (.object "FrameFinder$Rows") := ⟨ck_F, rfl, by decide, am_in_g (h := 586) (by decide +kernel) rfl, rfl, rfl, by decide +kernel⟩
theorem kf_F_7 : kt_F cl_c 0 7 R_F R_F F_F 13 66 (.object "FrameFinder$LineReader") := ⟨ck_F, rfl, by decide, am_in_g (h := 587) (by decide +kernel) rfl, rfl, rfl, by decide +kernel⟩
theorem kf_F_8 : kt_F cl_c 0 8 R_F R_F F_F 13 75 (.object "FrameFinder$Symbols") := ⟨ck_F, rfl, by decide, am_in_g (h := 588) (by decide +kernel) rfl, rfl, rfl, by decide +kernel⟩
theorem kf_F_9 : kt_F cl_c 0 9 R_F R_F F_F 13 84 (.object "FrameFinder$Frames") := ⟨ck_F, rfl, by decide, am_in_g (h := 589) (by decide +kernel) rfl, rfl, rfl, by decide +kernel⟩
theorem kf_Mo_0 : kt_F cl_m 0 0 R_Mo R_Mo F_Mo 60 39 (.array .long) := ⟨ck_Mo, rfl, by decide, am_in_g (h := 1285) (by decide +kernel) rfl, rfl, rfl, by decide +kernel⟩
theorem kf_Mo_2 : kt_F cl_m 0 2 R_Mo R_Mo F_Mo 60 45 (.array .byte) := ⟨ck_Mo, rfl, by decide, am_in_g (h := 1287) (by decide +kernel) rfl, rfl, rfl, by decide +kernel⟩
theorem kf_Mo_10 : kt_F cl_m 0 10 R_Mo R_Mo F_Mo 60 49 (.array .int) := ⟨ck_Mo, rfl, by decide, am_in_g (h := 1295) (by decide +kernel) rfl, rfl, rfl, by decide +kernel⟩
theorem kf_Mo_11 : kt_F cl_m 0 11 R_Mo R_Mo F_Mo 60 53 (.array .int) := ⟨ck_Mo, rfl, by decide, am_in_g (h := 1296) (by decide +kernel) rfl, rfl, rfl, by decide +kernel⟩
theorem kf_Mo_12 : kt_F cl_m 0 12 R_Mo R_Mo F_Mo 60 56 (.array .boolean) := ⟨ck_Mo, rfl, by decide, am_in_g (h := 1297) (by decide +kernel) rfl, rfl, rfl, by decide +kernel⟩
theorem kf_Mo_14 : kt_F cl_m 0 14 R_Mo R_Mo F_Mo 60 60 (.array .long) := ⟨ck_Mo, rfl, by decide, am_in_g (h := 1299) (by decide +kernel) rfl, rfl, rfl, by decide +kernel⟩
theorem kf_Mo_15 : kt_F cl_m 0 15 R_Mo R_Mo F_Mo 60 63 (.array .long) := ⟨ck_Mo, rfl, by decide, am_in_g (h := 1300) (by decide +kernel) rfl, rfl, rfl, by decide +kernel⟩
theorem kf_Mo_16 : kt_F cl_m 0 16 R_Mo R_Mo F_Mo 60 66 (.array .long) := ⟨ck_Mo, rfl, by decide, am_in_g (h := 1301) (by decide +kernel) rfl, rfl, rfl, by decide +kernel⟩
theorem kf_Mo_17 : kt_F cl_m 0 17 R_Mo R_Mo F_Mo 60 69 (.array .long) := ⟨ck_Mo, rfl, by decide, am_in_g (h := 1302) (by decide +kernel) rfl, rfl, rfl, by decide +kernel⟩
theorem kf_Mo_18 : kt_F cl_m 0 18 R_Mo R_Mo F_Mo 60 72 (.array .boolean) := ⟨ck_Mo, rfl, by decide, am_in_g (h := 1303) (by decide +kernel) rfl, rfl, rfl, by decide +kernel⟩
theorem kf_Mo_19 : kt_F cl_m 0 19 R_Mo R_Mo F_Mo 60 75 (.array .int) := ⟨ck_Mo, rfl, by decide, am_in_g (h := 1304) (by decide +kernel) rfl, rfl, rfl, by decide +kernel⟩
theorem kf_Mo_20 : kt_F cl_m 0 20 R_Mo R_Mo F_Mo 60 78 (.array .int) := ⟨ck_Mo, rfl, by decide, am_in_g (h := 1305) (by decide +kernel) rfl, rfl, rfl, by decide +kernel⟩
theorem kf_Mo_24 : kt_F cl_m 0 24 R_Mo R_Mo F_Mo 60 81 (.array .int) := ⟨ck_Mo, rfl, by decide, am_in_g (h := 1309) (by decide +kernel) rfl, rfl, rfl, by decide +kernel⟩
theorem kf_Mo_25 : kt_F cl_m 0 25 R_Mo R_Mo F_Mo 60 84 (.array .int) := ⟨ck_Mo, rfl, by decide, am_in_g (h := 1310) (by decide +kernel) rfl, rfl, rfl, by decide +kernel⟩
theorem kf_Mo_26 : kt_F cl_m 0 26 R_Mo R_Mo F_Mo 60 87 (.array .int) := ⟨ck_Mo, rfl, by decide, am_in_g (h := 1311) (by decide +kernel) rfl, rfl, rfl, by decide +kernel⟩
theorem kf_Mo_27 : kt_F cl_m 0 27 R_Mo R_Mo F_Mo 60 90 (.array .int) := ⟨ck_Mo, rfl, by decide, am_in_g (h := 1312) (by decide +kernel) rfl, rfl, rfl, by decide +kernel⟩
theorem kf_Mo_28 : kt_F cl_m 0 28 R_Mo R_Mo F_Mo 60 93 (.array .int) := ⟨ck_Mo, rfl, by decide, am_in_g (h := 1313) (by decide +kernel) rfl, rfl, rfl, by decide +kernel⟩
theorem kf_Mo_29 : kt_F cl_m 0 29 R_Mo R_Mo F_Mo 60 96 (.array .int) := ⟨ck_Mo, rfl, by decide, am_in_g (h := 1314) (by decide +kernel) rfl, rfl, rfl, by decide +kernel⟩
theorem kf_Mo_30 : kt_F cl_m 0 30 R_Mo R_Mo F_Mo 60 99 (.array .int) := ⟨ck_Mo, rfl, by decide, am_in_g (h := 1315) (by decide +kernel) rfl, rfl, rfl, by decide +kernel⟩
theorem kf_Mo_31 : kt_F cl_m 0 31 R_Mo R_Mo F_Mo 60 102 (.array .int) := ⟨ck_Mo, rfl, by decide, am_in_g (h := 1316) (by decide +kernel) rfl, rfl, rfl, by decide +kernel⟩
theorem kf_Mo_32 : kt_F cl_m 0 32 R_Mo R_Mo F_Mo 60 105 (.array .long) := ⟨ck_Mo, rfl, by decide, am_in_g (h := 1317) (by decide +kernel) rfl, rfl, rfl, by decide +kernel⟩
theorem kf_Mo_34 : kt_F cl_m 0 34 R_Mo R_Mo F_Mo 60 108 (.array .int) := ⟨ck_Mo, rfl, by decide, am_in_g (h := 1319) (by decide +kernel) rfl, rfl, rfl, by decide +kernel⟩
theorem kf_Mo_35 : kt_F cl_m 0 35 R_Mo R_Mo F_Mo 60 111 (.array .long) := ⟨ck_Mo, rfl, by decide, am_in_g (h := 1320) (by decide +kernel) rfl, rfl, rfl, by decide +kernel⟩
theorem kf_Mo_36 : kt_F cl_m 0 36 R_Mo R_Mo F_Mo 60 114 (.array .long) := ⟨ck_Mo, rfl, by decide, am_in_g (h := 1321) (by decide +kernel) rfl, rfl, rfl, by decide +kernel⟩
theorem kf_Mo_39 : kt_F cl_m 0 39 R_Mo R_Mo F_Mo 60 117 (.array .int) := ⟨ck_Mo, rfl, by decide, am_in_g (h := 1324) (by decide +kernel) rfl, rfl, rfl, by decide +kernel⟩
theorem kf_Mo_40 : kt_F cl_m 0 40 R_Mo R_Mo F_Mo 60 120 (.array .int) := ⟨ck_Mo, rfl, by decide, am_in_g (h := 1325) (by decide +kernel) rfl, rfl, rfl, by decide +kernel⟩
theorem kf_Mo_41 : kt_F cl_m 0 41 R_Mo R_Mo F_Mo 60 123 (.array .int) := ⟨ck_Mo, rfl, by decide, am_in_g (h := 1326) (by decide +kernel) rfl, rfl, rfl, by decide +kernel⟩
theorem kf_Mo_42 : kt_F cl_m 0 42 R_Mo R_Mo F_Mo 60 126 (.array .int) := ⟨ck_Mo, rfl, by decide, am_in_g (h := 1327) (by decide +kernel) rfl, rfl, rfl, by decide +kernel⟩
theorem kf_Mo_43 : kt_F cl_m 0 43 R_Mo R_Mo F_Mo 60 129 (.array .int) := ⟨ck_Mo, rfl, by decide, am_in_g (h := 1328) (by decide +kernel) rfl, rfl, rfl, by decide +kernel⟩
theorem kf_Mo_44 : kt_F cl_m 0 44 R_Mo R_Mo F_Mo 60 132 (.array .long) := ⟨ck_Mo, rfl, by decide, am_in_g (h := 1329) (by decide +kernel) rfl, rfl, rfl, by decide +kernel⟩
theorem kf_Mo_45 : kt_F cl_m 0 45 R_Mo R_Mo F_Mo 60 135 (.array .long) := ⟨ck_Mo, rfl, by decide, am_in_g (h := 1330) (by decide +kernel) rfl, rfl, rfl, by decide +kernel⟩
theorem kf_Mo_46 : kt_F cl_m 0 46 R_Mo R_Mo F_Mo 60 138 (.array .boolean) := ⟨ck_Mo, rfl, by decide, am_in_g (h := 1331) (by decide +kernel) rfl, rfl, rfl, by decide +kernel⟩
theorem kf_Mo_58 : kt_F cl_m 0 58 R_Mo R_Mo F_Mo 60 141 (.array .int) := ⟨ck_Mo, rfl, by decide, am_in_g (h := 1343) (by decide +kernel) rfl, rfl, rfl, by decide +kernel⟩
theorem kw_115 : (.initialized R_Se : Cond) ∈ tw_ := am_in_g (tl := lw_tbl) (h := 115) (by decide +kernel) rfl
theorem kw_116 : (.initialized R_Cu : Cond) ∈ tw_ := am_in_g (tl := lw_tbl) (h := 116) (by decide +kernel) rfl
theorem kw_117 : (.initialized R_En : Cond) ∈ tw_ := am_in_g (tl := lw_tbl) (h := 117) (by decide +kernel) rfl
theorem kw_118 : (.initialized R_Ur : Cond) ∈ tw_ := am_in_g (tl := lw_tbl) (h := 118) (by decide +kernel) rfl
theorem kw_119 : (.initialized R_Ab : Cond) ∈ tw_ := am_in_g (tl := lw_tbl) (h := 119) (by decide +kernel) rfl
theorem kw_120 : (.initialized R_Ra : Cond) ∈ tw_ := am_in_g (tl := lw_tbl) (h := 120) (by decide +kernel) rfl
theorem kw_121 : (.initialized R_Va : Cond) ∈ tw_ := am_in_g (tl := lw_tbl) (h := 121) (by decide +kernel) rfl
theorem kw_122 : (.initialized R_Ro : Cond) ∈ tw_ := am_in_g (tl := lw_tbl) (h := 122) (by decide +kernel) rfl
theorem kw_123 : (.initialized R_Li : Cond) ∈ tw_ := am_in_g (tl := lw_tbl) (h := 123) (by decide +kernel) rfl
theorem kw_124 : (.initialized R_Sy : Cond) ∈ tw_ := am_in_g (tl := lw_tbl) (h := 124) (by decide +kernel) rfl
theorem kw_125 : (.initialized R_Fr : Cond) ∈ tw_ := am_in_g (tl := lw_tbl) (h := 125) (by decide +kernel) rfl
theorem kw_141 : (.methodLink R_F 3 objectInit : Cond) ∈ tw_ := am_in_g (tl := lw_tbl) (h := 141) (by decide +kernel) rfl
theorem kw_142 : (.instanceMethod objectInit : Cond) ∈ tw_ := am_in_g (tl := lw_tbl) (h := 142) (by decide +kernel) rfl
theorem kw_143 : (.code objectInit ⟨#[0xb1]⟩ 1 none : Cond) ∈ tw_ := am_in_g (tl := lw_tbl) (h := 143) (by decide +kernel) rfl
theorem kw_144 : (.classLink R_F 13 R_Se : Cond) ∈ tw_ := am_in_g (tl := lw_tbl) (h := 144) (by decide +kernel) rfl
theorem kw_145 : (.instantiable R_Se 11 : Cond) ∈ tw_ := am_in_g (tl := lw_tbl) (h := 145) (by decide +kernel) rfl
theorem kw_146 : (.methodLink R_F 15 (am_nm M_Se_init) : Cond) ∈ tw_ := am_in_g (tl := lw_tbl) (h := 146) (by decide +kernel) rfl
theorem kw_147 : (.instanceMethod (am_nm M_Se_init) : Cond) ∈ tw_ := am_in_g (tl := lw_tbl) (h := 147) (by decide +kernel) rfl
theorem kw_149 : (.methodLink R_Se 3 objectInit : Cond) ∈ tw_ := am_in_g (tl := lw_tbl) (h := 149) (by decide +kernel) rfl
theorem kw_150 : (.classLink R_Se 36 R_Cu : Cond) ∈ tw_ := am_in_g (tl := lw_tbl) (h := 150) (by decide +kernel) rfl
theorem kw_151 : (.instantiable R_Cu 4 : Cond) ∈ tw_ := am_in_g (tl := lw_tbl) (h := 151) (by decide +kernel) rfl
theorem kw_152 : (.methodLink R_Se 38 (am_nm M_Cu_init) : Cond) ∈ tw_ := am_in_g (tl := lw_tbl) (h := 152) (by decide +kernel) rfl
theorem kw_153 : (.instanceMethod (am_nm M_Cu_init) : Cond) ∈ tw_ := am_in_g (tl := lw_tbl) (h := 153) (by decide +kernel) rfl
theorem kw_155 : (.methodLink R_Cu 3 objectInit : Cond) ∈ tw_ := am_in_g (tl := lw_tbl) (h := 155) (by decide +kernel) rfl
theorem kw_183 : (.arrayClass .byte : Cond) ∈ tw_ := am_in_g (tl := lw_tbl) (h := 183) (by decide +kernel) rfl
theorem kw_184 : (.arrayClass .int : Cond) ∈ tw_ := am_in_g (tl := lw_tbl) (h := 184) (by decide +kernel) rfl
theorem kw_185 : (.arrayClass .long : Cond) ∈ tw_ := am_in_g (tl := lw_tbl) (h := 185) (by decide +kernel) rfl
theorem kw_186 : (.arrayClass .boolean : Cond) ∈ tw_ := am_in_g (tl := lw_tbl) (h := 186) (by decide +kernel) rfl
theorem kw_222 : (.classLink R_F 22 R_En : Cond) ∈ tw_ := am_in_g (tl := lw_tbl) (h := 222) (by decide +kernel) rfl
theorem kw_223 : (.instantiable R_En 12 : Cond) ∈ tw_ := am_in_g (tl := lw_tbl) (h := 223) (by decide +kernel) rfl
theorem kw_225 : (.instanceMethod (am_nm M_En_init) : Cond) ∈ tw_ := am_in_g (tl := lw_tbl) (h := 225) (by decide +kernel) rfl
theorem kw_227 : (.methodLink R_En 3 objectInit : Cond) ∈ tw_ := am_in_g (tl := lw_tbl) (h := 227) (by decide +kernel) rfl
theorem kw_287 : (.classLink R_F 29 R_Ur : Cond) ∈ tw_ := am_in_g (tl := lw_tbl) (h := 287) (by decide +kernel) rfl
theorem kw_288 : (.instantiable R_Ur 7 : Cond) ∈ tw_ := am_in_g (tl := lw_tbl) (h := 288) (by decide +kernel) rfl
theorem kw_289 : (.methodLink R_F 31 (am_nm M_Ur_init) : Cond) ∈ tw_ := am_in_g (tl := lw_tbl) (h := 289) (by decide +kernel) rfl
theorem kw_290 : (.instanceMethod (am_nm M_Ur_init) : Cond) ∈ tw_ := am_in_g (tl := lw_tbl) (h := 290) (by decide +kernel) rfl
theorem kw_292 : (.methodLink R_Ur 3 objectInit : Cond) ∈ tw_ := am_in_g (tl := lw_tbl) (h := 292) (by decide +kernel) rfl
theorem kw_293 : (.classLink R_Ur 19 R_Ab : Cond) ∈ tw_ := am_in_g (tl := lw_tbl) (h := 293) (by decide +kernel) rfl
theorem kw_294 : (.instantiable R_Ab 8 : Cond) ∈ tw_ := am_in_g (tl := lw_tbl) (h := 294) (by decide +kernel) rfl
theorem kw_296 : (.instanceMethod (am_nm M_Ab_init) : Cond) ∈ tw_ := am_in_g (tl := lw_tbl) (h := 296) (by decide +kernel) rfl
theorem kw_298 : (.methodLink R_Ab 3 objectInit : Cond) ∈ tw_ := am_in_g (tl := lw_tbl) (h := 298) (by decide +kernel) rfl
theorem kw_330 : (.classLink R_Ur 26 R_Cu : Cond) ∈ tw_ := am_in_g (tl := lw_tbl) (h := 330) (by decide +kernel) rfl
theorem kw_331 : (.methodLink R_Ur 28 (am_nm M_Cu_init) : Cond) ∈ tw_ := am_in_g (tl := lw_tbl) (h := 331) (by decide +kernel) rfl
theorem kw_354 : (.classLink R_F 38 R_Ra : Cond) ∈ tw_ := am_in_g (tl := lw_tbl) (h := 354) (by decide +kernel) rfl
theorem kw_355 : (.instantiable R_Ra 5 : Cond) ∈ tw_ := am_in_g (tl := lw_tbl) (h := 355) (by decide +kernel) rfl
theorem kw_357 : (.instanceMethod (am_nm M_Ra_init) : Cond) ∈ tw_ := am_in_g (tl := lw_tbl) (h := 357) (by decide +kernel) rfl
theorem kw_359 : (.methodLink R_Ra 3 objectInit : Cond) ∈ tw_ := am_in_g (tl := lw_tbl) (h := 359) (by decide +kernel) rfl
theorem kw_378 : (.classLink R_F 45 R_Va : Cond) ∈ tw_ := am_in_g (tl := lw_tbl) (h := 378) (by decide +kernel) rfl
theorem kw_379 : (.instantiable R_Va 7 : Cond) ∈ tw_ := am_in_g (tl := lw_tbl) (h := 379) (by decide +kernel) rfl
theorem kw_380 : (.methodLink R_F 47 (am_nm M_Va_init) : Cond) ∈ tw_ := am_in_g (tl := lw_tbl) (h := 380) (by decide +kernel) rfl
theorem kw_381 : (.instanceMethod (am_nm M_Va_init) : Cond) ∈ tw_ := am_in_g (tl := lw_tbl) (h := 381) (by decide +kernel) rfl
theorem kw_383 : (.methodLink R_Va 3 objectInit : Cond) ∈ tw_ := am_in_g (tl := lw_tbl) (h := 383) (by decide +kernel) rfl
theorem kw_384 : (.classLink R_Va 23 R_Cu : Cond) ∈ tw_ := am_in_g (tl := lw_tbl) (h := 384) (by decide +kernel) rfl
theorem kw_385 : (.methodLink R_Va 25 (am_nm M_Cu_init) : Cond) ∈ tw_ := am_in_g (tl := lw_tbl) (h := 385) (by decide +kernel) rfl
theorem kw_408 : (.classLink R_F 54 R_Ro : Cond) ∈ tw_ := am_in_g (tl := lw_tbl) (h := 408) (by decide +kernel) rfl
theorem kw_409 : (.instantiable R_Ro 9 : Cond) ∈ tw_ := am_in_g (tl := lw_tbl) (h := 409) (by decide +kernel) rfl
theorem kw_411 : (.instanceMethod (am_nm M_Ro_init) : Cond) ∈ tw_ := am_in_g (tl := lw_tbl) (h := 411) (by decide +kernel) rfl
theorem kw_413 : (.methodLink R_Ro 3 objectInit : Cond) ∈ tw_ := am_in_g (tl := lw_tbl) (h := 413) (by decide +kernel) rfl
theorem kw_445 : (.classLink R_F 61 R_Li : Cond) ∈ tw_ := am_in_g (tl := lw_tbl) (h := 445) (by decide +kernel) rfl
theorem kw_446 : (.instantiable R_Li 15 : Cond) ∈ tw_ := am_in_g (tl := lw_tbl) (h := 446) (by decide +kernel) rfl
theorem kw_447 : (.methodLink R_F 63 (am_nm M_Li_init) : Cond) ∈ tw_ := am_in_g (tl := lw_tbl) (h := 447) (by decide +kernel) rfl
theorem kw_448 : (.instanceMethod (am_nm M_Li_init) : Cond) ∈ tw_ := am_in_g (tl := lw_tbl) (h := 448) (by decide +kernel) rfl
theorem kw_450 : (.methodLink R_Li 3 objectInit : Cond) ∈ tw_ := am_in_g (tl := lw_tbl) (h := 450) (by decide +kernel) rfl
theorem kw_451 : (.classLink R_Li 31 R_Cu : Cond) ∈ tw_ := am_in_g (tl := lw_tbl) (h := 451) (by decide +kernel) rfl
theorem kw_452 : (.methodLink R_Li 33 (am_nm M_Cu_init) : Cond) ∈ tw_ := am_in_g (tl := lw_tbl) (h := 452) (by decide +kernel) rfl
theorem kw_499 : (.classLink R_F 70 R_Sy : Cond) ∈ tw_ := am_in_g (tl := lw_tbl) (h := 499) (by decide +kernel) rfl
theorem kw_500 : (.instantiable R_Sy 7 : Cond) ∈ tw_ := am_in_g (tl := lw_tbl) (h := 500) (by decide +kernel) rfl
theorem kw_501 : (.methodLink R_F 72 (am_nm M_Sy_init) : Cond) ∈ tw_ := am_in_g (tl := lw_tbl) (h := 501) (by decide +kernel) rfl
theorem kw_502 : (.instanceMethod (am_nm M_Sy_init) : Cond) ∈ tw_ := am_in_g (tl := lw_tbl) (h := 502) (by decide +kernel) rfl
theorem kw_504 : (.methodLink R_Sy 3 objectInit : Cond) ∈ tw_ := am_in_g (tl := lw_tbl) (h := 504) (by decide +kernel) rfl
theorem kw_505 : (.classLink R_Sy 30 R_Cu : Cond) ∈ tw_ := am_in_g (tl := lw_tbl) (h := 505) (by decide +kernel) rfl
theorem kw_506 : (.methodLink R_Sy 32 (am_nm M_Cu_init) : Cond) ∈ tw_ := am_in_g (tl := lw_tbl) (h := 506) (by decide +kernel) rfl
theorem kw_531 : (.classLink R_F 79 R_Fr : Cond) ∈ tw_ := am_in_g (tl := lw_tbl) (h := 531) (by decide +kernel) rfl
theorem kw_532 : (.instantiable R_Fr 12 : Cond) ∈ tw_ := am_in_g (tl := lw_tbl) (h := 532) (by decide +kernel) rfl
theorem kw_533 : (.methodLink R_F 81 (am_nm M_Fr_init) : Cond) ∈ tw_ := am_in_g (tl := lw_tbl) (h := 533) (by decide +kernel) rfl
theorem kw_534 : (.instanceMethod (am_nm M_Fr_init) : Cond) ∈ tw_ := am_in_g (tl := lw_tbl) (h := 534) (by decide +kernel) rfl
theorem kw_536 : (.methodLink R_Fr 3 objectInit : Cond) ∈ tw_ := am_in_g (tl := lw_tbl) (h := 536) (by decide +kernel) rfl
theorem kw_1268 : (.methodLink R_Mo 1 objectInit : Cond) ∈ tw_ := am_in_g (tl := lw_tbl) (h := 1268) (by decide +kernel) rfl
theorem kw_1269 : (.constantLong R_Mo 7 (7016440498326168622 : Int64) : Cond) ∈ tw_ := am_in_g (tl := lw_tbl) (h := 1269) (by decide +kernel) rfl
theorem kw_1270 : (.constantLong R_Mo 9 (508508136034 : Int64) : Cond) ∈ tw_ := am_in_g (tl := lw_tbl) (h := 1270) (by decide +kernel) rfl
theorem kw_1271 : (.constantLong R_Mo 11 (7592901250629592110 : Int64) : Cond) ∈ tw_ := am_in_g (tl := lw_tbl) (h := 1271) (by decide +kernel) rfl
theorem kw_1272 : (.constantLong R_Mo 13 (7300718 : Int64) : Cond) ∈ tw_ := am_in_g (tl := lw_tbl) (h := 1272) (by decide +kernel) rfl
theorem kw_1273 : (.constantLong R_Mo 15 (8313477191008871470 : Int64) : Cond) ∈ tw_ := am_in_g (tl := lw_tbl) (h := 1273) (by decide +kernel) rfl
theorem kw_1274 : (.constantLong R_Mo 17 (29300 : Int64) : Cond) ∈ tw_ := am_in_g (tl := lw_tbl) (h := 1274) (by decide +kernel) rfl
theorem kw_1275 : (.constantLong R_Mo 19 (7809074032743375918 : Int64) : Cond) ∈ tw_ := am_in_g (tl := lw_tbl) (h := 1275) (by decide +kernel) rfl
theorem kw_1276 : (.constantLong R_Mo 21 (32216186215558761 : Int64) : Cond) ∈ tw_ := am_in_g (tl := lw_tbl) (h := 1276) (by decide +kernel) rfl
theorem kw_1277 : (.constantLong R_Mo 23 (7310299210293670516 : Int64) : Cond) ∈ tw_ := am_in_g (tl := lw_tbl) (h := 1277) (by decide +kernel) rfl
theorem kw_1278 : (.constantLong R_Mo 25 (29556 : Int64) : Cond) ∈ tw_ := am_in_g (tl := lw_tbl) (h := 1278) (by decide +kernel) rfl
theorem kw_1279 : (.constantLong R_Mo 27 (7496804 : Int64) : Cond) ∈ tw_ := am_in_g (tl := lw_tbl) (h := 1279) (by decide +kernel) rfl
theorem kw_1280 : (.constantLong R_Mo 29 (8241419596970943534 : Int64) : Cond) ∈ tw_ := am_in_g (tl := lw_tbl) (h := 1280) (by decide +kernel) rfl
theorem kw_1281 : (.constantLong R_Mo 31 (32497661360498542 : Int64) : Cond) ∈ tw_ := am_in_g (tl := lw_tbl) (h := 1281) (by decide +kernel) rfl
theorem kw_1282 : (.constantLong R_Mo 33 (6647401 : Int64) : Cond) ∈ tw_ := am_in_g (tl := lw_tbl) (h := 1282) (by decide +kernel) rfl
theorem kw_1283 : (.constantLong R_Mo 35 (27691700398420782 : Int64) : Cond) ∈ tw_ := am_in_g (tl := lw_tbl) (h := 1283) (by decide +kernel) rfl
theorem kw_1284 : (.constantLong R_Mo 37 (27691700481979182 : Int64) : Cond) ∈ tw_ := am_in_g (tl := lw_tbl) (h := 1284) (by decide +kernel) rfl
theorem kn_224 : (.methodLinkNest R_F 24 (am_nm M_En_init) "FrameFinder" : Cond) ∈ nw_ := am_in_n (tl := lw_tbl) (h := 224) (by decide +kernel) rfl
theorem kn_295 : (.methodLinkNest R_Ur 21 (am_nm M_Ab_init) "FrameFinder" : Cond) ∈ nw_ := am_in_n (tl := lw_tbl) (h := 295) (by decide +kernel) rfl
theorem kn_356 : (.methodLinkNest R_F 40 (am_nm M_Ra_init) "FrameFinder" : Cond) ∈ nw_ := am_in_n (tl := lw_tbl) (h := 356) (by decide +kernel) rfl
theorem kn_410 : (.methodLinkNest R_F 56 (am_nm M_Ro_init) "FrameFinder" : Cond) ∈ nw_ := am_in_n (tl := lw_tbl) (h := 410) (by decide +kernel) rfl
theorem kg_Ab_init : Cond.code (am_nm M_Ab_init) (am_cc M_Ab_init) (am_mx M_Ab_init) (am_rt M_Ab_init) ∈ am_tw S_c := by rw [ht_c]; exact am_in_g (h := 297) (by decide +kernel) rfl
theorem kd_Ab_init : (am_nm M_Ab_init).cls ≠ "java/lang/invoke/MethodHandle" ∧ (am_nm M_Ab_init).cls ≠ "java/lang/invoke/VarHandle" ∧ (parseMethodDescriptor (am_nm M_Ab_init).desc).map (fun d => d.parameters.length) = some 0 := by decide +kernel
theorem kg_Cu_init : Cond.code (am_nm M_Cu_init) (am_cc M_Cu_init) (am_mx M_Cu_init) (am_rt M_Cu_init) ∈ am_tw S_c := by rw [ht_c]; exact am_in_g (h := 154) (by decide +kernel) rfl
theorem kd_Cu_init : (am_nm M_Cu_init).cls ≠ "java/lang/invoke/MethodHandle" ∧ (am_nm M_Cu_init).cls ≠ "java/lang/invoke/VarHandle" ∧ (parseMethodDescriptor (am_nm M_Cu_init).desc).map (fun d => d.parameters.length) = some 1 := by decide +kernel
theorem kg_En_init : Cond.code (am_nm M_En_init) (am_cc M_En_init) (am_mx M_En_init) (am_rt M_En_init) ∈ am_tw S_c := by rw [ht_c]; exact am_in_g (h := 226) (by decide +kernel) rfl
theorem kd_En_init : (am_nm M_En_init).cls ≠ "java/lang/invoke/MethodHandle" ∧ (am_nm M_En_init).cls ≠ "java/lang/invoke/VarHandle" ∧ (parseMethodDescriptor (am_nm M_En_init).desc).map (fun d => d.parameters.length) = some 0 := by decide +kernel
theorem kg_Fr_init : Cond.code (am_nm M_Fr_init) (am_cc M_Fr_init) (am_mx M_Fr_init) (am_rt M_Fr_init) ∈ am_tw S_c := by rw [ht_c]; exact am_in_g (h := 535) (by decide +kernel) rfl
theorem kd_Fr_init : (am_nm M_Fr_init).cls ≠ "java/lang/invoke/MethodHandle" ∧ (am_nm M_Fr_init).cls ≠ "java/lang/invoke/VarHandle" ∧ (parseMethodDescriptor (am_nm M_Fr_init).desc).map (fun d => d.parameters.length) = some 5 := by decide +kernel
theorem kg_Li_init : Cond.code (am_nm M_Li_init) (am_cc M_Li_init) (am_mx M_Li_init) (am_rt M_Li_init) ∈ am_tw S_c := by rw [ht_c]; exact am_in_g (h := 449) (by decide +kernel) rfl
theorem kd_Li_init : (am_nm M_Li_init).cls ≠ "java/lang/invoke/MethodHandle" ∧ (am_nm M_Li_init).cls ≠ "java/lang/invoke/VarHandle" ∧ (parseMethodDescriptor (am_nm M_Li_init).desc).map (fun d => d.parameters.length) = some 4 := by decide +kernel
theorem kg_Ra_init : Cond.code (am_nm M_Ra_init) (am_cc M_Ra_init) (am_mx M_Ra_init) (am_rt M_Ra_init) ∈ am_tw S_c := by rw [ht_c]; exact am_in_g (h := 358) (by decide +kernel) rfl
theorem kd_Ra_init : (am_nm M_Ra_init).cls ≠ "java/lang/invoke/MethodHandle" ∧ (am_nm M_Ra_init).cls ≠ "java/lang/invoke/VarHandle" ∧ (parseMethodDescriptor (am_nm M_Ra_init).desc).map (fun d => d.parameters.length) = some 0 := by decide +kernel
theorem kg_Ro_init : Cond.code (am_nm M_Ro_init) (am_cc M_Ro_init) (am_mx M_Ro_init) (am_rt M_Ro_init) ∈ am_tw S_c := by rw [ht_c]; exact am_in_g (h := 412) (by decide +kernel) rfl
theorem kd_Ro_init : (am_nm M_Ro_init).cls ≠ "java/lang/invoke/MethodHandle" ∧ (am_nm M_Ro_init).cls ≠ "java/lang/invoke/VarHandle" ∧ (parseMethodDescriptor (am_nm M_Ro_init).desc).map (fun d => d.parameters.length) = some 0 := by decide +kernel
theorem kg_Se_init : Cond.code (am_nm M_Se_init) (am_cc M_Se_init) (am_mx M_Se_init) (am_rt M_Se_init) ∈ am_tw S_c := by rw [ht_c]; exact am_in_g (h := 148) (by decide +kernel) rfl
theorem kd_Se_init : (am_nm M_Se_init).cls ≠ "java/lang/invoke/MethodHandle" ∧ (am_nm M_Se_init).cls ≠ "java/lang/invoke/VarHandle" ∧ (parseMethodDescriptor (am_nm M_Se_init).desc).map (fun d => d.parameters.length) = some 1 := by decide +kernel
theorem kg_Sy_init : Cond.code (am_nm M_Sy_init) (am_cc M_Sy_init) (am_mx M_Sy_init) (am_rt M_Sy_init) ∈ am_tw S_c := by rw [ht_c]; exact am_in_g (h := 503) (by decide +kernel) rfl
theorem kd_Sy_init : (am_nm M_Sy_init).cls ≠ "java/lang/invoke/MethodHandle" ∧ (am_nm M_Sy_init).cls ≠ "java/lang/invoke/VarHandle" ∧ (parseMethodDescriptor (am_nm M_Sy_init).desc).map (fun d => d.parameters.length) = some 2 := by decide +kernel
theorem kg_Ur_init : Cond.code (am_nm M_Ur_init) (am_cc M_Ur_init) (am_mx M_Ur_init) (am_rt M_Ur_init) ∈ am_tw S_c := by rw [ht_c]; exact am_in_g (h := 291) (by decide +kernel) rfl
theorem kd_Ur_init : (am_nm M_Ur_init).cls ≠ "java/lang/invoke/MethodHandle" ∧ (am_nm M_Ur_init).cls ≠ "java/lang/invoke/VarHandle" ∧ (parseMethodDescriptor (am_nm M_Ur_init).desc).map (fun d => d.parameters.length) = some 3 := by decide +kernel
theorem kg_Va_init : Cond.code (am_nm M_Va_init) (am_cc M_Va_init) (am_mx M_Va_init) (am_rt M_Va_init) ∈ am_tw S_c := by rw [ht_c]; exact am_in_g (h := 382) (by decide +kernel) rfl
theorem kd_Va_init : (am_nm M_Va_init).cls ≠ "java/lang/invoke/MethodHandle" ∧ (am_nm M_Va_init).cls ≠ "java/lang/invoke/VarHandle" ∧ (parseMethodDescriptor (am_nm M_Va_init).desc).map (fun d => d.parameters.length) = some 4 := by decide +kernel
