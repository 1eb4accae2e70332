def am_lyB (tl : List Cond) (C : String) (T : u_T) : Nat → List Nat → Bool
  | _, [] => true
  | k, h :: hs => am_in tl h (u_lay C T k) && am_lyB tl C T (k + 1) hs
theorem am_ly_good (C : String) (T : u_T) (k : Nat) : goodWord (u_lay C T k) = true := by
  unfold u_lay
  split <;> rfl
theorem am_lyB_at {tl : List Cond} {C : String} {T : u_T} : ∀ (hs : List Nat) (k0 : Nat), am_lyB tl C T k0 hs = true → ∀ k, k < hs.length → u_lay C T (k0 + k) ∈ tl.filter goodWord
  | [], _, _, k, hk => by simp at hk
  | h :: hs, k0, hb, k, hk => by
    simp only [am_lyB, Bool.and_eq_true] at hb
    match k, hk with
    | 0, _ => exact am_in_g hb.1 (am_ly_good _ _ _)
    | k + 1, hk =>
      have h1 := am_lyB_at hs (k0 + 1) hb.2 k (by simpa using hk)
      rw [show k0 + 1 + k = k0 + (k + 1) by omega] at h1
      exact h1
theorem am_lyB_ok {tl : List Cond} {C : String} {T : u_T} {N : Nat} {hs : List Nat} (hb : am_lyB tl C T 0 hs = true) (hn : hs.length = N) : ∀ w ∈ u_ws C T N, w ∈ tl.filter goodWord := by
  intro w hw
  obtain ⟨k, hk, rfl⟩ := List.mem_map.mp hw
  have := am_lyB_at hs 0 hb k (by rw [hn]; exact List.mem_range.mp hk)
  rwa [Nat.zero_add] at this
def am_c1k (q : vw_C) (tw : List Cond) : Prop := (∀ w ∈ u_ws q.1 q.2.1 q.2.2, w ∈ tw) ∧ (∀ a, a < q.2.2 → ∀ b, b < q.2.2 → a ≠ b → (q.2.1 a).2.1 ≠ (q.2.1 b).2.1) ∧ ∃ ty : Nat → FieldType, ∀ k, k < q.2.2 → parseFieldDescriptor (q.2.1 k).2.2.1 = some (ty k)
theorem nm_F : ∀ a, a < 13 → ∀ b, b < 13 → a ≠ b → (F_F a).2.1 ≠ (F_F b).2.1 := by decide +kernel
theorem ty_F : ∀ k, k < 13 → parseFieldDescriptor (F_F k).2.2.1 = some (t_F k) := by decide +kernel
theorem ly_F : ∀ w ∈ u_ws R_F F_F 13, w ∈ tw_ := am_lyB_ok (hs := [593, 595, 597, 599, 601, 603, 605, 607, 609, 611, 613, 615, 617]) (by decide +kernel) rfl
theorem ck_F : am_c1k (R_F, F_F, 13) tw_ := ⟨ly_F, nm_F, t_F, ty_F⟩
theorem nm_Se : ∀ a, a < 11 → ∀ b, b < 11 → a ≠ b → (F_Se a).2.1 ≠ (F_Se b).2.1 := by decide +kernel
theorem ty_Se : ∀ k, k < 11 → parseFieldDescriptor (F_Se k).2.2.1 = some (t_Se k) := by decide +kernel
theorem ly_Se : ∀ w ∈ u_ws R_Se F_Se 11, w ∈ tw_ := am_lyB_ok (hs := [199, 201, 203, 205, 207, 209, 211, 213, 215, 217, 219]) (by decide +kernel) rfl
theorem ck_Se : am_c1k (R_Se, F_Se, 11) tw_ := ⟨ly_Se, nm_Se, t_Se, ty_Se⟩
theorem nm_Cu : ∀ a, a < 4 → ∀ b, b < 4 → a ≠ b → (F_Cu a).2.1 ≠ (F_Cu b).2.1 := by decide +kernel
theorem ty_Cu : ∀ k, k < 4 → parseFieldDescriptor (F_Cu k).2.2.1 = some (t_Cu k) := by decide +kernel
theorem ly_Cu : ∀ w ∈ u_ws R_Cu F_Cu 4, w ∈ tw_ := am_lyB_ok (hs := [174, 176, 178, 180]) (by decide +kernel) rfl
theorem ck_Cu : am_c1k (R_Cu, F_Cu, 4) tw_ := ⟨ly_Cu, nm_Cu, t_Cu, ty_Cu⟩
theorem nm_En : ∀ a, a < 12 → ∀ b, b < 12 → a ≠ b → (F_En a).2.1 ≠ (F_En b).2.1 := by decide +kernel
theorem ty_En : ∀ k, k < 12 → parseFieldDescriptor (F_En k).2.2.1 = some (t_En k) := by decide +kernel
theorem ly_En : ∀ w ∈ u_ws R_En F_En 12, w ∈ tw_ := am_lyB_ok (hs := [262, 264, 266, 268, 270, 272, 274, 276, 278, 280, 282, 284]) (by decide +kernel) rfl
theorem ck_En : am_c1k (R_En, F_En, 12) tw_ := ⟨ly_En, nm_En, t_En, ty_En⟩
theorem nm_Ur : ∀ a, a < 7 → ∀ b, b < 7 → a ≠ b → (F_Ur a).2.1 ≠ (F_Ur b).2.1 := by decide +kernel
theorem ty_Ur : ∀ k, k < 7 → parseFieldDescriptor (F_Ur k).2.2.1 = some (t_Ur k) := by decide +kernel
theorem ly_Ur : ∀ w ∈ u_ws R_Ur F_Ur 7, w ∈ tw_ := am_lyB_ok (hs := [339, 341, 343, 345, 347, 349, 351]) (by decide +kernel) rfl
theorem ck_Ur : am_c1k (R_Ur, F_Ur, 7) tw_ := ⟨ly_Ur, nm_Ur, t_Ur, ty_Ur⟩
theorem nm_Ab : ∀ a, a < 8 → ∀ b, b < 8 → a ≠ b → (F_Ab a).2.1 ≠ (F_Ab b).2.1 := by decide +kernel
theorem ty_Ab : ∀ k, k < 8 → parseFieldDescriptor (F_Ab k).2.2.1 = some (t_Ab k) := by decide +kernel
theorem ly_Ab : ∀ w ∈ u_ws R_Ab F_Ab 8, w ∈ tw_ := am_lyB_ok (hs := [313, 315, 317, 319, 321, 323, 325, 327]) (by decide +kernel) rfl
theorem ck_Ab : am_c1k (R_Ab, F_Ab, 8) tw_ := ⟨ly_Ab, nm_Ab, t_Ab, ty_Ab⟩
theorem nm_Ra : ∀ a, a < 5 → ∀ b, b < 5 → a ≠ b → (F_Ra a).2.1 ≠ (F_Ra b).2.1 := by decide +kernel
theorem ty_Ra : ∀ k, k < 5 → parseFieldDescriptor (F_Ra k).2.2.1 = some (t_Ra k) := by decide +kernel
theorem ly_Ra : ∀ w ∈ u_ws R_Ra F_Ra 5, w ∈ tw_ := am_lyB_ok (hs := [367, 369, 371, 373, 375]) (by decide +kernel) rfl
theorem ck_Ra : am_c1k (R_Ra, F_Ra, 5) tw_ := ⟨ly_Ra, nm_Ra, t_Ra, ty_Ra⟩
theorem nm_Va : ∀ a, a < 7 → ∀ b, b < 7 → a ≠ b → (F_Va a).2.1 ≠ (F_Va b).2.1 := by decide +kernel
theorem ty_Va : ∀ k, k < 7 → parseFieldDescriptor (F_Va k).2.2.1 = some (t_Va k) := by decide +kernel
theorem ly_Va : ∀ w ∈ u_ws R_Va F_Va 7, w ∈ tw_ := am_lyB_ok (hs := [393, 395, 397, 399, 401, 403, 405]) (by decide +kernel) rfl
theorem ck_Va : am_c1k (R_Va, F_Va, 7) tw_ := ⟨ly_Va, nm_Va, t_Va, ty_Va⟩
theorem nm_Ro : ∀ a, a < 9 → ∀ b, b < 9 → a ≠ b → (F_Ro a).2.1 ≠ (F_Ro b).2.1 := by decide +kernel
theorem ty_Ro : ∀ k, k < 9 → parseFieldDescriptor (F_Ro k).2.2.1 = some (t_Ro k) := by decide +kernel
theorem ly_Ro : ∀ w ∈ u_ws R_Ro F_Ro 9, w ∈ tw_ := am_lyB_ok (hs := [426, 428, 430, 432, 434, 436, 438, 440, 442]) (by decide +kernel) rfl
theorem ck_Ro : am_c1k (R_Ro, F_Ro, 9) tw_ := ⟨ly_Ro, nm_Ro, t_Ro, ty_Ro⟩
theorem nm_Li : ∀ a, a < 15 → ∀ b, b < 15 → a ≠ b → (F_Li a).2.1 ≠ (F_Li b).2.1 := by decide +kernel
theorem ty_Li : ∀ k, k < 15 → parseFieldDescriptor (F_Li k).2.2.1 = some (t_Li k) := by decide +kernel
theorem ly_Li : ∀ w ∈ u_ws R_Li F_Li 15, w ∈ tw_ := am_lyB_ok (hs := [468, 470, 472, 474, 476, 478, 480, 482, 484, 486, 488, 490, 492, 494, 496]) (by decide +kernel) rfl
theorem ck_Li : am_c1k (R_Li, F_Li, 15) tw_ := ⟨ly_Li, nm_Li, t_Li, ty_Li⟩
theorem nm_Sy : ∀ a, a < 7 → ∀ b, b < 7 → a ≠ b → (F_Sy a).2.1 ≠ (F_Sy b).2.1 := by decide +kernel
theorem ty_Sy : ∀ k, k < 7 → parseFieldDescriptor (F_Sy k).2.2.1 = some (t_Sy k) := by decide +kernel
theorem ly_Sy : ∀ w ∈ u_ws R_Sy F_Sy 7, w ∈ tw_ := am_lyB_ok (hs := [516, 518, 520, 522, 524, 526, 528]) (by decide +kernel) rfl
theorem ck_Sy : am_c1k (R_Sy, F_Sy, 7) tw_ := ⟨ly_Sy, nm_Sy, t_Sy, ty_Sy⟩
theorem nm_Fr : ∀ a, a < 12 → ∀ b, b < 12 → a ≠ b → (F_Fr a).2.1 ≠ (F_Fr b).2.1 := by decide +kernel
theorem ty_Fr : ∀ k, k < 12 → parseFieldDescriptor (F_Fr k).2.2.1 = some (t_Fr k) := by decide +kernel
theorem ly_Fr : ∀ w ∈ u_ws R_Fr F_Fr 12, w ∈ tw_ := am_lyB_ok (hs := [555, 557, 559, 561, 563, 565, 567, 569, 571, 573, 575, 577]) (by decide +kernel) rfl
theorem ck_Fr : am_c1k (R_Fr, F_Fr, 12) tw_ := ⟨ly_Fr, nm_Fr, t_Fr, ty_Fr⟩
theorem nm_Mo : ∀ a, a < 60 → ∀ b, b < 60 → a ≠ b → (F_Mo a).2.1 ≠ (F_Mo b).2.1 := by decide +kernel
theorem ty_Mo : ∀ k, k < 60 → parseFieldDescriptor (F_Mo k).2.2.1 = some (t_Mo k) := by decide +kernel
theorem ly_Mo : ∀ w ∈ u_ws R_Mo F_Mo 60, w ∈ tw_ := am_lyB_ok (hs := [1345, 1347, 1349, 1351, 1353, 1355, 1357, 1359, 1361, 1363, 1365, 1367, 1369, 1371, 1373, 1375, 1377, 1379, 1381, 1383, 1385, 1387, 1389, 1391, 1393, 1395, 1397, 1399, 1401, 1403, 1405, 1407, 1409, 1411, 1413, 1415, 1417, 1419, 1421, 1423, 1425, 1427, 1429, 1431, 1433, 1435, 1437, 1439, 1441, 1443, 1445, 1447, 1449, 1451, 1453, 1455, 1457, 1459, 1461, 1463]) (by decide +kernel) rfl
theorem ck_Mo : am_c1k (R_Mo, F_Mo, 60) tw_ := ⟨ly_Mo, nm_Mo, t_Mo, ty_Mo⟩
theorem cok_c : am_cok cl_c tw_ := by
  intro ci q hq
  match ci, hq with
  | 0, hq => cases hq; exact ck_F
  | 1, hq => cases hq; exact ck_Se
  | 2, hq => cases hq; exact ck_Cu
  | 3, hq => cases hq; exact ck_En
  | 4, hq => cases hq; exact ck_Ur
  | 5, hq => cases hq; exact ck_Ab
  | 6, hq => cases hq; exact ck_Ra
  | 7, hq => cases hq; exact ck_Va
  | 8, hq => cases hq; exact ck_Ro
  | 9, hq => cases hq; exact ck_Li
  | 10, hq => cases hq; exact ck_Sy
  | 11, hq => cases hq; exact ck_Fr
  | n + 12, hq => simp [cl_c] at hq
set_option maxRecDepth 100000 in
theorem sys_c : am_sys S_c := ⟨cok_c, fun w hw => (List.mem_filter.mp hw).2, fun w hw => (List.mem_filter.mp hw).2⟩
theorem cok_m : am_cok cl_m tw_ := by
  intro ci q hq
  match ci, hq with
  | 0, hq => cases hq; exact ck_Mo
  | n + 1, hq => simp [cl_m] at hq
set_option maxRecDepth 100000 in
theorem sys_m : am_sys S_m := ⟨cok_m, fun w hw => (List.mem_filter.mp hw).2, fun w hw => (List.mem_filter.mp hw).2⟩
