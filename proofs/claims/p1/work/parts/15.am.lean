/-! static arrays: the cell's number, class, name, descriptor -/
def am_sok (Y : am_Y) (zs : List (Nat × String × String × String)) (tw nw : List Cond) (host : String) : Prop := ∀ q ∈ Y.2.2.2, ∃ r : Nat × String × String × String, zs[q.2.2.1]? = some r ∧ r.1 = q.2.1 ∧
  (q.2.2.2 = true → Cond.fieldLinkNest Y.1 q.1 r.2.1 r.2.2.1 r.2.2.2 host ∈ nw) ∧ (q.2.2.2 = false → Cond.fieldLink Y.1 q.1 r.2.1 r.2.2.1 r.2.2.2 ∈ tw)
theorem am_ck_sta {Y : am_Y} {pc n : Nat} {x : am_X} (h : am_ck Y pc (.getstatic n) x = true) : (∃ b, (n, x.2.1, x.2.2.1, b) ∈ Y.2.2.2) ∧ x.1 = .ref x.2.1 := by
  have h : ((decide ((n, x.2.1, x.2.2.1, true) ∈ Y.2.2.2) || decide ((n, x.2.1, x.2.2.1, false) ∈ Y.2.2.2)) && decide (x.1 = .ref x.2.1)) = true := h
  rw [Bool.and_eq_true, Bool.or_eq_true] at h
  refine ⟨?_, of_decide_eq_true h.2⟩
  rcases h.1 with h | h
  · exact ⟨true, of_decide_eq_true h⟩
  · exact ⟨false, of_decide_eq_true h⟩
theorem am_cell_o {sh : Nat → am_C} {ca : Nat → ClassId} {ρ : Nat → Nat} {σ : am_S} {k ci : Nat} {ks : List am_K} (h : sh k = .inr (ci, ks)) : am_cell sh ca ρ σ k = .inr (ci, am_flds ρ σ k 0 ks) := by
  simp [am_cell, h]
theorem am_cell_a {sh : Nat → am_C} {ca : Nat → ClassId} {ρ : Nat → Nat} {σ : am_S} {k t0 n : Nat} {ty : FieldType} (h : sh k = .inl (t0, ty, n)) : am_cell sh ca ρ σ k = .inl (ca t0, n, am_con σ ty k) := by
  simp [am_cell, h]
section AMH
variable {p : Program} {l : Launch} {e : Env} {R : Room} {s : State} {m : MethodId} {args : Array Value} {below : List Frame} {meth : Method} {c : Code} {H : Heap} {locs : List Loc} {cells slots : Nat} {Q : State → Prop}
variable {cc : ByteArray} {pc : Nat} {ls : Array Slot} {ρ : Nat → Nat} {cl : List vw_C} {sh : Nat → am_C} {Nw Nt : Nat} {D : va_G} {ca : Nat → ClassId} {A : Nat → Prop} {cst : Nat → Nat → Int32}
theorem am_R_fi {σ : am_S} {H1 : Heap} {locs1 : List Loc} {k j ci : Nat} {v : Int32} {ks : List am_K} (h1 : sh k = .inr (ci, ks)) (h2 : ks[j]? = some none)
    (hP : va_P D cl ((am_ws sh ca ρ Nw σ).set k (ρ k, .inr (ci, (am_flds ρ σ k 0 ks).set j (.int v)))) H1) (hD : va_D A ((am_ws sh ca ρ Nw σ).set k (ρ k, .inr (ci, (am_flds ρ σ k 0 ks).set j (.int v))))) (hS : va_S A s.heap H1 locs1) : am_R cl sh Nw D ca ρ A s (am_fi σ k j v) H1 locs1 := by
  have e : (am_ws sh ca ρ Nw σ).set k (ρ k, .inr (ci, (am_flds ρ σ k 0 ks).set j (.int v))) = am_ws sh ca ρ Nw (am_fi σ k j v) := by
    refine am_ws_set ?_ (fun q hq => am_cell_congr (fun b => by simp [am_fi, hq]) (fun b => rfl) rfl rfl)
    rw [am_cell_o h1, am_flds_seti ks 0 j h2, Nat.zero_add]
  rw [e] at hP hD
  exact ⟨hP, hD, hS⟩
theorem am_R_fl {σ : am_S} {H1 : Heap} {locs1 : List Loc} {k j ci : Nat} {v : Int64} {ks : List am_K} (h1 : sh k = .inr (ci, ks)) (h2 : ks[j]? = some (some none))
    (hP : va_P D cl ((am_ws sh ca ρ Nw σ).set k (ρ k, .inr (ci, (am_flds ρ σ k 0 ks).set j (.long v)))) H1) (hD : va_D A ((am_ws sh ca ρ Nw σ).set k (ρ k, .inr (ci, (am_flds ρ σ k 0 ks).set j (.long v))))) (hS : va_S A s.heap H1 locs1) : am_R cl sh Nw D ca ρ A s (am_fl σ k j v) H1 locs1 := by
  have e : (am_ws sh ca ρ Nw σ).set k (ρ k, .inr (ci, (am_flds ρ σ k 0 ks).set j (.long v))) = am_ws sh ca ρ Nw (am_fl σ k j v) := by
    refine am_ws_set ?_ (fun q hq => am_cell_congr (fun b => rfl) (fun b => by simp [am_fl, hq]) rfl rfl)
    rw [am_cell_o h1, am_flds_setl ks 0 j h2, Nat.zero_add]
  rw [e] at hP hD
  exact ⟨hP, hD, hS⟩
theorem am_R_ai {σ : am_S} {H1 : Heap} {locs1 : List Loc} {k j t0 n : Nat} {v : Int32} {ty : FieldType} (h1 : sh k = .inl (t0, ty, n)) (h2 : ty ≠ .long)
    (hP : va_P D cl ((am_ws sh ca ρ Nw σ).set k (ρ k, .inl (ca t0, n, .inl (upd (σ.2.1 k) j v)))) H1) (hD : va_D A ((am_ws sh ca ρ Nw σ).set k (ρ k, .inl (ca t0, n, .inl (upd (σ.2.1 k) j v))))) (hS : va_S A s.heap H1 locs1) : am_R cl sh Nw D ca ρ A s (am_ai σ k j v) H1 locs1 := by
  have e : (am_ws sh ca ρ Nw σ).set k (ρ k, .inl (ca t0, n, .inl (upd (σ.2.1 k) j v))) = am_ws sh ca ρ Nw (am_ai σ k j v) := by
    refine am_ws_set ?_ (fun q hq => am_cell_congr (fun b => rfl) (fun b => rfl) (by simp [am_ai, hq]) rfl)
    rw [am_cell_a h1]
    unfold am_con
    cases ty <;> first | exact absurd rfl h2 | simp [am_ai]
  rw [e] at hP hD
  exact ⟨hP, hD, hS⟩
theorem am_R_al {σ : am_S} {H1 : Heap} {locs1 : List Loc} {k j t0 n : Nat} {v : Int64} (h1 : sh k = .inl (t0, .long, n))
    (hP : va_P D cl ((am_ws sh ca ρ Nw σ).set k (ρ k, .inl (ca t0, n, .inr (.inl (vp_updL (σ.2.2 k) j v))))) H1) (hD : va_D A ((am_ws sh ca ρ Nw σ).set k (ρ k, .inl (ca t0, n, .inr (.inl (vp_updL (σ.2.2 k) j v)))))) (hS : va_S A s.heap H1 locs1) : am_R cl sh Nw D ca ρ A s (am_al σ k j v) H1 locs1 := by
  have e : (am_ws sh ca ρ Nw σ).set k (ρ k, .inl (ca t0, n, .inr (.inl (vp_updL (σ.2.2 k) j v)))) = am_ws sh ca ρ Nw (am_al σ k j v) := by
    refine am_ws_set ?_ (fun q hq => am_cell_congr (fun b => rfl) (fun b => rfl) rfl (by simp [am_al, hq]))
    rw [am_cell_a h1]
    simp [am_con, am_al]
  rw [e] at hP hD
  exact ⟨hP, hD, hS⟩
set_option maxHeartbeats 8000000 in
theorem am_h_ok {Y : am_Y} {tw nw : List Cond} {host : String} {zs : List (Nat × String × String × String)} {i : Instr} {len : Nat} {x : am_X} {st st' : List Value} {ob : List Prop} {σ σ' : am_S} (hx : p.tables.exec = Jvm.exec) (hb : c.code = cc) (hts : ∀ w ∈ tw, w.before args s = true) (hN : ∀ w ∈ nw, va_Nw w s) (hown : s.vm.findClass Y.1 = some m.cls)
    (hK : va_K D cl (am_tys ca) s) (hC : am_cok cl tw) (hF : am_fok Y cl tw nw host) (hZ : am_sok Y zs tw nw host) (hz : ∀ q ∈ zs, va_Z q.2.1 q.2.2.1 q.2.2.2 (.ref (ρ q.1)) A s s.heap)
    (hd : decode cc pc = .ok (i, len)) (hck : am_ck Y pc i x = true) (hT : ∀ k, Nw ≤ k → k < Nt → va_T .int (ρ k) (am_len sh k) (fun j => .int (cst k j)) A s s.heap) (h : am_h sh Nw Nt cst i len x st σ = some (ob, st', σ')) (ho : am_all ob) (hR : am_R cl sh Nw D ca ρ A s σ H locs)
    (k : ∀ (H1 : Heap) (locs1 : List Loc), am_R cl sh Nw D ca ρ A s σ' H1 locs1 → W p l e R s m args below meth c H1 locs1 cells slots Q (F0 m (pc + len) ls (st'.map (am_v ρ)))) : W p l e R s m args below meth c H locs cells slots Q (F0 m pc ls (st.map (am_v ρ))) := by
  unfold am_h at h
  split at h
  · split at h
    · rename_i k0 r
      cases h
      obtain ⟨hk, ks, kd, h1, h2, h3⟩ := am_has_ok ho.1
      obtain ⟨b, hm⟩ := am_ck_get hck
      obtain ⟨q, g1, g2, g3, g4, g5, g6, g7⟩ := hF _ hm
      have he := am_ws_at (sh := sh) (ca := ca) (ρ := ρ) (σ := σ) hk
      rw [am_cell_o h1] at he
      have hv := am_flds_get (ρ := ρ) (σ := σ) (k := k0) ks 0 _ h2
      rw [Nat.zero_add] at hv
      have hk2 := k H locs hR
      rw [List.map_cons, am_gv_ok h1 h2 h3] at hk2
      cases b with
      | true => exact va_getN hx hb hts (hC _ _ g1).1 hown hK hR.1 k0 he g1 _ g2 (va_Nw.use rfl (hN _ (g6 rfl))) (fun z hz => by rw [g3] at hz; exact hz) hv hd hk2
      | false => exact va_get hx hb hts (hC _ _ g1).1 hown hK hR.1 k0 he g1 _ g2 (hts _ (g7 rfl)) (fun z hz => by rw [g3] at hz; exact hz) hv hd hk2
    · cases h
  · split at h
    · rename_i v k0 r
      cases h
      obtain ⟨hk, ks, kd, h1, h2, h3⟩ := am_has_ok ho.1
      have hfit := ho.2.1
      obtain ⟨b, hm⟩ := am_ck_put hck
      obtain ⟨q, g1, g2, g3, g4, g5, g6, g7⟩ := hF _ hm
      have he := am_ws_at (sh := sh) (ca := ca) (ρ := ρ) (σ := σ) hk
      rw [am_cell_o h1] at he
      have hlen : x.2.2.1 < (am_flds ρ σ k0 0 ks).length := by
        rw [am_flds_len]
        exact (List.getElem?_eq_some_iff.mp h2).1
      have hkd : kd = none := by
        cases kd with
        | none => rfl
        | some z =>
          exfalso
          cases z with
          | none =>
            have e : x.2.2.2 = 1 := by simpa [am_kk] using h3
            rw [e] at hfit
            exact hfit
          | some z =>
            have e : x.2.2.2 = 2 := by simpa [am_kk] using h3
            rw [e] at hfit
            exact hfit
      subst hkd
      obtain ⟨tyf, hty⟩ := (hC _ _ g1).2.2
      have h03 : x.2.2.2 = 0 ∨ x.2.2.2 = 3 := by simpa [am_kk] using h3
      have hn2 : x.2.2.2 ≠ 2 := by omega
      have hall : ∃ ty : FieldType, parseFieldDescriptor (q.2.1 x.2.2.1).2.2.1 = some ty ∧ narrow ty (.int v) = .int v ∧ fits ty (.int v) = true := by
        have g5 : am_kd x.2.2.2 (q.2.1 x.2.2.1).2.2.1 := g5
        rcases h03 with e | e
        · rw [e] at g5
          have g5 : (q.2.1 x.2.2.1).2.2.1 = "I" := g5
          exact ⟨.int, by rw [g5]; decide +kernel, rfl, rfl⟩
        · rw [e] at g5 hfit
          have g5 : (q.2.1 x.2.2.1).2.2.1 = "Z" := g5
          have hfit : v = 0 ∨ v = 1 := hfit
          refine ⟨.boolean, by rw [g5]; decide +kernel, ?_, ?_⟩
          · rcases hfit with rfl | rfl <;> decide +kernel
          · rcases hfit with rfl | rfl <;> decide +kernel
      obtain ⟨ty, t1, t2, t3⟩ := hall
      cases b with
      | true => exact va_putN hx hb hts (hC _ _ g1).1 tyf hty (hC _ _ g1).2.1 hown hK hR.1 hR.2.1 hR.2.2 k0 he g1 _ g2 (va_Nw.use rfl (hN _ (g6 rfl))) (fun z hz => by rw [g3] at hz; exact hz) (g4 hn2) t1 t2 t3 hlen hd (fun H1 locs1 hP hD hS => k H1 locs1 (am_R_fi h1 h2 hP hD hS))
      | false => exact va_put hx hb hts (hC _ _ g1).1 tyf hty (hC _ _ g1).2.1 hown hK hR.1 hR.2.1 hR.2.2 k0 he g1 _ g2 (hts _ (g7 rfl)) (fun z hz => by rw [g3] at hz; exact hz) (g4 hn2) t1 t2 t3 hlen hd (fun H1 locs1 hP hD hS => k H1 locs1 (am_R_fi h1 h2 hP hD hS))
    · rename_i v k0 r
      cases h
      obtain ⟨hk, ks, kd, h1, h2, h3⟩ := am_has_ok ho.1
      have hone : x.2.2.2 = 1 := ho.2.1
      obtain ⟨b, hm⟩ := am_ck_put hck
      obtain ⟨q, g1, g2, g3, g4, g5, g6, g7⟩ := hF _ hm
      have he := am_ws_at (sh := sh) (ca := ca) (ρ := ρ) (σ := σ) hk
      rw [am_cell_o h1] at he
      have hlen : x.2.2.1 < (am_flds ρ σ k0 0 ks).length := by
        rw [am_flds_len]
        exact (List.getElem?_eq_some_iff.mp h2).1
      have hkd : kd = some none := by
        rw [hone] at h3
        cases kd with
        | none => exact absurd h3 (by decide)
        | some z =>
          cases z with
          | none => rfl
          | some z => simp [am_kk] at h3
      subst hkd
      obtain ⟨tyf, hty⟩ := (hC _ _ g1).2.2
      have hn2 : x.2.2.2 ≠ 2 := by omega
      have g5 : am_kd x.2.2.2 (q.2.1 x.2.2.1).2.2.1 := g5
      rw [hone] at g5
      have g5 : (q.2.1 x.2.2.1).2.2.1 = "J" := g5
      have t1 : parseFieldDescriptor (q.2.1 x.2.2.1).2.2.1 = some .long := by rw [g5]; decide +kernel
      cases b with
      | true => exact va_putN hx hb hts (hC _ _ g1).1 tyf hty (hC _ _ g1).2.1 hown hK hR.1 hR.2.1 hR.2.2 k0 he g1 _ g2 (va_Nw.use rfl (hN _ (g6 rfl))) (fun z hz => by rw [g3] at hz; exact hz) (g4 hn2) t1 rfl rfl hlen hd (fun H1 locs1 hP hD hS => k H1 locs1 (am_R_fl h1 h2 hP hD hS))
      | false => exact va_put hx hb hts (hC _ _ g1).1 tyf hty (hC _ _ g1).2.1 hown hK hR.1 hR.2.1 hR.2.2 k0 he g1 _ g2 (hts _ (g7 rfl)) (fun z hz => by rw [g3] at hz; exact hz) (g4 hn2) t1 rfl rfl hlen hd (fun H1 locs1 hP hD hS => k H1 locs1 (am_R_fl h1 h2 hP hD hS))
    · cases h
  · split at h
    · rename_i k0 r
      cases h
      obtain ⟨hk, t0, h1, h2⟩ := am_arr_ok ho.1
      by_cases hw : k0 < Nw
      · have he := am_ws_at (sh := sh) (ca := ca) (ρ := ρ) (σ := σ) hw
        rw [am_cell_a h1] at he
        exact va_alen hx hb hK hR.1 k0 t0 he (am_tys_at h2) rfl hd (k H locs hR)
      · exact va_tlen hx hb (hT k0 (Nat.le_of_not_lt hw) hk) hR.2.2 rfl hd (k H locs hR)
    · cases h
  · cases h
    obtain ⟨⟨b, hm⟩, hx1⟩ := am_ck_sta hck
    obtain ⟨q, g1, g2, g3, g4⟩ := hZ _ hm
    have hq := hz _ (List.mem_of_getElem? g1)
    have hk2 := k H locs hR
    have g2 : q.1 = x.2.1 := g2
    rw [List.map_cons, hx1, am_v_ref, ← g2] at hk2
    cases b with
    | true => exact va_getsN hx hb hq hR.2.2 hown (va_Nw.use rfl (hN _ (g3 rfl))) (fun z hz => hz) hd hk2
    | false => exact va_gets hx hb hq hR.2.2 hown (hts _ (g4 rfl)) (fun z hz => hz) hd hk2
  · split at h
    · rename_i a k0 r
      cases h
      obtain ⟨hk, t0, h1, h2⟩ := am_arr_ok ho.1
      by_cases hw : k0 < Nw
      · have he := am_ws_at (sh := sh) (ca := ca) (ρ := ρ) (σ := σ) hw
        rw [am_cell_a h1] at he
        have hk2 := k H locs hR
        rw [show am_ri Nw cst σ k0 a.toNatClampNeg = σ.2.1 k0 a.toNatClampNeg by simp [am_ri, hw]] at hk2
        exact va_iald hx hb hK hR.1 k0 t0 he (am_tys_at h2) ho.2.1 hd hk2
      · have hk2 := k H locs hR
        rw [show am_ri Nw cst σ k0 a.toNatClampNeg = cst k0 a.toNatClampNeg by simp [am_ri, hw]] at hk2
        exact va_ti hx hb (hT k0 (Nat.le_of_not_lt hw) hk) hR.2.2 ho.2.1 rfl hd hk2
    · cases h
  · split at h
    · rename_i a k0 r
      cases h
      have h8 := ho.1
      obtain ⟨hw, t0, h1, h2⟩ := am_arr_ok h8
      have he := am_ws_at (sh := sh) (ca := ca) (ρ := ρ) (σ := σ) hw
      rw [am_cell_a h1] at he
      by_cases e3 : x.2.1 = 3
      · rw [show am_bt x.2.1 = .boolean by simp [am_bt, e3]] at he h2
        exact va_zald hx hb hK hR.1 k0 t0 he (am_tys_at h2) ho.2.1 hd (k H locs hR)
      · rw [show am_bt x.2.1 = .byte by simp [am_bt, e3]] at he h2
        exact va_bald hx hb hK hR.1 k0 t0 he (am_tys_at h2) ho.2.1 hd (k H locs hR)
    · cases h
  · split at h
    · rename_i a k0 r
      cases h
      obtain ⟨hw, t0, h1, h2⟩ := am_arr_ok ho.1
      have he := am_ws_at (sh := sh) (ca := ca) (ρ := ρ) (σ := σ) hw
      rw [am_cell_a h1] at he
      exact va_lald hx hb hK hR.1 k0 t0 he (am_tys_at h2) ho.2.1 hd (k H locs hR)
    · cases h
  · split at h
    · rename_i v a k0 r
      cases h
      obtain ⟨hw, t0, h1, h2⟩ := am_arr_ok ho.1
      have he := am_ws_at (sh := sh) (ca := ca) (ρ := ρ) (σ := σ) hw
      rw [am_cell_a h1] at he
      exact va_iast hx hb hK hR.1 hR.2.1 hR.2.2 k0 t0 he (am_tys_at h2) ho.2.1 hd (fun H1 locs1 hP hD hS => k H1 locs1 (am_R_ai h1 (by decide) hP hD hS))
    · cases h
  · split at h
    · rename_i v a k0 r
      cases h
      have h8 := ho.1
      obtain ⟨hw, t0, h1, h2⟩ := am_arr_ok h8
      have he := am_ws_at (sh := sh) (ca := ca) (ρ := ρ) (σ := σ) hw
      rw [am_cell_a h1] at he
      by_cases e3 : x.2.1 = 3
      · have e4 : am_bt x.2.1 = .boolean := by simp [am_bt, e3]
        rw [e4] at he h2 h1 k
        exact va_zast hx hb hK hR.1 hR.2.1 hR.2.2 k0 t0 he (am_tys_at h2) ho.2.1 hd (fun H1 locs1 hP hD hS => k H1 locs1 (am_R_ai h1 (by decide) hP hD hS))
      · have e4 : am_bt x.2.1 = .byte := by simp [am_bt, e3]
        rw [e4] at he h2 h1 k
        exact va_bast hx hb hK hR.1 hR.2.1 hR.2.2 k0 t0 he (am_tys_at h2) ho.2.1 hd (fun H1 locs1 hP hD hS => k H1 locs1 (am_R_ai h1 (by decide) hP hD hS))
    · cases h
  · split at h
    · rename_i v a k0 r
      cases h
      obtain ⟨hw, t0, h1, h2⟩ := am_arr_ok ho.1
      have he := am_ws_at (sh := sh) (ca := ca) (ρ := ρ) (σ := σ) hw
      rw [am_cell_a h1] at he
      exact va_last hx hb hK hR.1 hR.2.1 hR.2.2 k0 t0 he (am_tys_at h2) ho.2.1 hd (fun H1 locs1 hP hD hS => k H1 locs1 (am_R_al h1 hP hD hS))
    · cases h
  · cases h
end AMH
