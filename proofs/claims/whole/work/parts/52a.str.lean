/-! the class's literals: String's own methods over them -/
theorem a_i2c {S : am_Sy} {M : am_Me} {pc : Nat} {L : List (Option Value)} {r : List Value} {σ : am_S} {F : am_Fn} {x : am_X} {a : Int32} (i : am_I1 S M pc 1 (.i2c) x) (kk : am_A S M (pc + 1, L, .int (a.toUInt32 % 65536).toInt32 :: r, σ) F) : am_A S M (pc, L, .int a :: r, σ) F := am_one (ob := []) (d' := []) (d := []) i rfl (trivial) kk
theorem am_ret_n {S : am_Sy} {M : am_Me} {pc : Nat} {L : List (Option Value)} {v : Int32} {σ : am_S} {post : Option Value → am_S → Prop} {ty : FieldType} (hM : am_ok S M) (ht : am_rt M = some ty) (hn : narrow ty (.int v) = .int v) {x : am_X} (hq : (am_cd M)[pc]? = some (some (.ireturn, 1, x))) (h : post (some (.int v)) σ) : am_A S M (pc, L, [.int v], σ) (am_r S post) := by
  intro p l e s m args below meth c H locs ls D ca ρ A hl9 hx hb hml hne hr hlk hown hts hX hA hR hL hlen
  exact W.zret (v := v) hx hb (hr.trans ht) hn (fun t ht hW => ⟨⟨some (.int v), σ, rfl, h, by rw [ht]; exact hR.1⟩, hR.2.2.F ht⟩) hR.2.2.2.2 (hM.2.2.2.2.2 pc _ hq).1 hlk
theorem am_ret_a {S : am_Sy} {M : am_Me} {pc k : Nat} {L : List (Option Value)} {σ : am_S} {post : Option Value → am_S → Prop} {C : String} (ht : am_rt M = some (.object C)) (hd : decode (am_cc M) pc = .ok (.areturn, 1)) (h : post (some (.ref k)) σ) : am_A S M (pc, L, [.ref k], σ) (am_r S post) := by
  intro p l e s m args below meth c H locs ls D ca ρ A hl9 hx hb hml hne hr hlk hown hts hX hA hR hL hlen
  exact W.aret (v := .ref (ρ k)) hx hb (hr.trans ht) (Or.inl ⟨C, rfl⟩) (Or.inr ⟨_, rfl⟩) (fun t ht hW => ⟨⟨some (.ref k), σ, rfl, h, by rw [ht]; exact hR.1⟩, hR.2.2.F ht⟩) hR.2.2.2.2 hd hlk
section SK
variable {M : am_Me} {pc i : Nat} {L : List (Option Value)} {r : List Value} {σ : am_S} {F : am_Fn}
theorem a_kv (hy : (am_yl M).1 = "java/lang/String") (hd : decode (am_cc M) pc = .ok (.getfield 9, 3)) (hi : i < 10) (kk : am_A S_c M (pc + 3, L, .ref (78 + i) :: r, σ) F) : am_A S_c M (pc, L, .ref (68 + i) :: r, σ) F := by
  intro p l e s m args below meth c H locs ls D ca ρ A hl9 hx hb hml hne hr hlk hown hts hX hA hR hL hlen
  exact vk_getf (own := "java/lang/String") (ref := "java/lang/String") hx hb ((hX.2.2.2.2.2 rfl).1.1 i hi).2.2.1 hR.2.2 (by rw [← hy]; exact hown) (hts _ (by rw [ht_c]; exact (am_in_g (tl := lw_tbl) (h := 1780) (w := .fieldLink "java/lang/String" 9 "java/lang/String" "value" "[B") (by decide +kernel) rfl))) (fun x h => h) hd (kk p l e s m args below meth c H locs ls D ca ρ A hl9 hx hb hml hne hr hlk hown hts hX hA hR hL hlen)
theorem a_kc (hy : (am_yl M).1 = "java/lang/String") (hd : decode (am_cc M) pc = .ok (.getfield 15, 3)) (hi : i < 10) (kk : am_A S_c M (pc + 3, L, .int 0 :: r, σ) F) : am_A S_c M (pc, L, .ref (68 + i) :: r, σ) F := by
  intro p l e s m args below meth c H locs ls D ca ρ A hl9 hx hb hml hne hr hlk hown hts hX hA hR hL hlen
  exact vk_getf (own := "java/lang/String") (ref := "java/lang/String") hx hb ((hX.2.2.2.2.2 rfl).1.1 i hi).2.1 hR.2.2 (by rw [← hy]; exact hown) (hts _ (by rw [ht_c]; exact (am_in_g (tl := lw_tbl) (h := 1781) (w := .fieldLink "java/lang/String" 15 "java/lang/String" "coder" "B") (by decide +kernel) rfl))) (fun x h => h) hd (kk p l e s m args below meth c H locs ls D ca ρ A hl9 hx hb hml hne hr hlk hown hts hX hA hR hL hlen)
theorem a_ks (hy : (am_yl M).1 = "java/lang/String") (hd : decode (am_cc M) pc = .ok (.getstatic 38, 3)) (kk : am_A S_c M (pc + 3, L, .int 1 :: r, σ) F) : am_A S_c M (pc, L, r, σ) F := by
  intro p l e s m args below meth c H locs ls D ca ρ A hl9 hx hb hml hne hr hlk hown hts hX hA hR hL hlen
  exact va_gets (own := "java/lang/String") (ref := "java/lang/String") hx hb (hX.2.2.2.2.2 rfl).2.2 hR.2.2 (by rw [← hy]; exact hown) (hts _ (by rw [ht_c]; exact (am_in_g (tl := lw_tbl) (h := 734) (w := .fieldLink "java/lang/String" 38 "java/lang/String" "COMPACT_STRINGS" "Z") (by decide +kernel) rfl))) (fun x h => h) hd (kk p l e s m args below meth c H locs ls D ca ρ A hl9 hx hb hml hne hr hlk hown hts hX hA hR hL hlen)
theorem a_kl {n : Nat} (hd : decode (am_cc M) pc = .ok (.arraylength, 1)) (hi : i < 10) (hn : ss_len.getD i 0 = n) (kk : am_A S_c M (pc + 1, L, .int (nI n) :: r, σ) F) : am_A S_c M (pc, L, .ref (78 + i) :: r, σ) F := by
  intro p l e s m args below meth c H locs ls D ca ρ A hl9 hx hb hml hne hr hlk hown hts hX hA hR hL hlen
  exact va_tlen hx hb ((hX.2.2.2.2.2 rfl).1.1 i hi).2.2.2 hR.2.2 (by rw [hn]; rfl) hd (kk p l e s m args below meth c H locs ls D ca ρ A hl9 hx hb hml hne hr hlk hown hts hX hA hR hL hlen)
theorem a_kb {a : Int32} (hd : decode (am_cc M) pc = .ok (.baload, 1)) (hi : i < 10) (hin : vp_in a (ss_len.getD i 0)) (kk : am_A S_c M (pc + 1, L, .int ((ss_byt.getD i []).getD a.toNatClampNeg 0) :: r, σ) F) : am_A S_c M (pc, L, .int a :: .ref (78 + i) :: r, σ) F := by
  intro p l e s m args below meth c H locs ls D ca ρ A hl9 hx hb hml hne hr hlk hown hts hX hA hR hL hlen
  exact va_tb hx hb ((hX.2.2.2.2.2 rfl).1.1 i hi).2.2.2 hR.2.2 hin rfl hd (kk p l e s m args below meth c H locs ls D ca ρ A hl9 hx hb hml hne hr hlk hown hts hX hA hR hL hlen)
theorem a_kd {j : Nat} (hy : (am_yl M).1 = "FrameFinder$Sections") (hd : decode (am_cc M) pc = .ok (.ldc j, 2)) (hi : i < 10) (hj : ss_idx.getD i 0 = j) (kk : am_A S_c M (pc + 2, L, .ref (68 + i) :: r, σ) F) : am_A S_c M (pc, L, r, σ) F := by
  intro p l e s m args below meth c H locs ls D ca ρ A hl9 hx hb hml hne hr hlk hown hts hX hA hR hL hlen
  subst hj
  exact va_ldcS (own := "FrameFinder$Sections") hx hb (by rw [← hy]; exact hown) ((hX.2.2.2.2.2 rfl).2.1 i hi) hd (kk p l e s m args below meth c H locs ls D ca ρ A hl9 hx hb hml hne hr hlk hown hts hX hA hR hL hlen)
set_option maxHeartbeats 2000000 in
/-- a virtual call on a literal -/
theorem a_kcv {M2 : am_Me} {idx n : Nat} {x : am_X} {as rest : List Value} {σ1 : am_S} {v : Option Value} (hM : am_ok S_c M) (hq : (am_cd M)[pc]? = some (some (.invokevirtual idx, 3, x))) (hlk2 : am_lk S_c M M2 idx false n) (hii : Cond.instanceMethod (am_nm M2) ∈ am_tw S_c) (hse : Cond.selects (am_nm M2).cls (am_nm M2) (am_nm M2) ∈ am_tw S_c) (hc : (am_nm M2).cls = "java/lang/String") (hi : i < 10) (hn : as.length = n) (hw : (rest.map Value.category).sum ≤ 8)
    (hM2 : am_Mt S_c M2 (.ref (68 + i) :: as) σ (fun q τ => q = v ∧ τ = σ1)) (kk : am_A S_c M (pc + 3, L, v.toList ++ rest, σ1) F) : am_A S_c M (pc, L, as.reverse ++ .ref (68 + i) :: rest, σ) F := by
  intro p l e s m args below meth c H locs ls D ca ρ A hl9 hx hb hml hne hr hlk hown hts hX hA hR hL hlen
  obtain ⟨l1, l2, l3, l4, l5, l6, l8, l9, l7⟩ := hlk2
  have hS := sys_c
  have hd := (hM.2.2.2.2.2 pc _ hq).1
  have hrec := vk_recv (hX.2.2.2.2.2 rfl).1 hi hR.2.2
  rw [← hc] at hrec
  have hAr := am_Ar_in (S := S_c) hA hR.2.2.1 hR.2.1
  have hpre : PreV s H (am_nm M2).cls (ρ (68 + i)) (am_Pc S_c D ca ρ (.ref (68 + i) :: as) σ H.size) (as.map (am_v ρ)) :=
    ⟨am_Pc_blind hS, hrec, fun U hU hW => ⟨rfl, by rw [hU], by rw [hU]; exact hR.1, hR.2.1.weaken (fun _ _ _ _ => trivial), by rw [hU]; exact am_X0_warm hS hW (am_X0_heap hR.2.2.2.1 hAr hX)⟩⟩
  have hst : (F0 m pc ls ((as.reverse ++ .ref (68 + i) :: rest).map (am_v ρ))).stack = (as.map (am_v ρ)).reverse ++ .ref (ρ (68 + i)) :: rest.map (am_v ρ) := by
    show (as.reverse ++ .ref (68 + i) :: rest).map (am_v ρ) = _
    simp [List.map_append, am_v]
  have hwr : 2 * (F0 m pc ls ((as.reverse ++ .ref (68 + i) :: rest).map (am_v ρ))).monitorRoom + ((rest.map (am_v ρ)).map fun v => v.category).sum ≤ 8 := by
    have e : ((rest.map (am_v ρ)).map fun v => v.category) = rest.map Value.category := by
      rw [List.map_map]
      exact List.map_congr_left (fun v _ => am_v_cat ρ v)
    exact lv_room (by rw [e]; exact hw)
  have hlen2 : ∀ sig, parseMethodDescriptor (am_nm M2).desc = some sig → n = sig.parameters.length := by
    intro sig h
    have h2 := l5.2.2
    rw [h] at h2
    exact (Option.some.inj h2).symm
  have hcode := hts _ l3
  have hpay := am_pay hS hts l3
  refine am_back (post2 := fun q τ => q = v ∧ τ = σ1) (a := (Value.ref (ρ (68 + i)) :: as.map (am_v ρ)).toArray) (fun r9 σ9 h9 => by obtain ⟨e1, e2⟩ := h9; rw [e1, e2]; exact kk) hl9 hx hb hml hne hr hlk hown hts hX hA hR hL hlen ?_
  exact va_runV (C := (am_nm M2).cls) ⟨hx, hb, hml, hown, hts⟩ (hM2 l hl9 D ca ρ H.size) ⟨⟨l8, l9, l6, l7, hpay, List.mem_cons_self, hcode, hts _ l4, ⟨l5.1, l5.2.1⟩, hlen2, hts _ (l1 rfl)⟩, hts _ hii, hts _ hse⟩ hpre rfl (by simpa using hn) (hL.1.trans hlen) hst hwr hd ⟨Nat.zero_le _, Nat.zero_le _⟩
end SK
def Y_St : am_Y := ("java/lang/String", [], [], [])
theorem kY_St : am_kok Y_St tw_ := am_kB_ok (hs := []) (by decide +kernel)
theorem fY_St : am_fok Y_St cl_c tw_ nw_ "FrameFinder" := am_fB_ok (hs := []) (by decide +kernel)
theorem sY_St : am_sok Y_St (am_zs S_c) tw_ nw_ "FrameFinder" := am_sB_ok (hs := []) (by decide +kernel)
set_option maxRecDepth 100000 in
theorem oY_St : am_okY S_c Y_St := ⟨kY_St, fY_St, sY_St⟩
def Y_La : am_Y := ("java/lang/StringLatin1", [], [], [])
theorem kY_La : am_kok Y_La tw_ := am_kB_ok (hs := []) (by decide +kernel)
theorem fY_La : am_fok Y_La cl_c tw_ nw_ "FrameFinder" := am_fB_ok (hs := []) (by decide +kernel)
theorem sY_La : am_sok Y_La (am_zs S_c) tw_ nw_ "FrameFinder" := am_sB_ok (hs := []) (by decide +kernel)
set_option maxRecDepth 100000 in
theorem oY_La : am_okY S_c Y_La := ⟨kY_La, fY_La, sY_La⟩
def cd_St_length : List (Option am_I) := [some (.aload_n 0, 1, xN), none, none, none, none, some (.aload_n 0, 1, xN), some (.invokevirtual 335, 3, xN), none, none, some (.ishr, 1, xN), some (.ireturn, 1, xN)]
def M_St_length : am_Me := (⟨"java/lang/String", "length", "()I"⟩, prog_19_method_54_code, 1, (some .int), Y_St, cd_St_length, 1, 20, 0, 0)
set_option maxRecDepth 100000 in
theorem ok_St_length : am_ok S_c M_St_length := am_ok_ofY (Y := Y_St) (cd := cd_St_length) (by decide +kernel) rfl rfl rfl oY_St (by decide +kernel)
theorem i_St_length_0 : am_I1 S_c M_St_length 0 1 (.aload_n 0) (xN) := ⟨sys_c, ok_St_length, rfl⟩
theorem i_St_length_5 : am_I1 S_c M_St_length 5 1 (.aload_n 0) (xN) := ⟨sys_c, ok_St_length, rfl⟩
theorem i_St_length_6 : am_I1 S_c M_St_length 6 3 (.invokevirtual 335) (xN) := ⟨sys_c, ok_St_length, rfl⟩
theorem i_St_length_9 : am_I1 S_c M_St_length 9 1 (.ishr) (xN) := ⟨sys_c, ok_St_length, rfl⟩
theorem i_St_length_10 : am_I1 S_c M_St_length 10 1 (.ireturn) (xN) := ⟨sys_c, ok_St_length, rfl⟩
def cd_St_coder : List (Option am_I) := [none, none, none, some (.ifCond .eq 10, 3, xJ 13), none, none, some (.aload_n 0, 1, xN), none, none, none, some (.goto 4, 3, xJ 14), none, none, none, some (.ireturn, 1, xN)]
def M_St_coder : am_Me := (⟨"java/lang/String", "coder", "()B"⟩, prog_19_method_152_code, 1, (some .byte), Y_St, cd_St_coder, 0, 0, 0, 0)
set_option maxRecDepth 100000 in
theorem ok_St_coder : am_ok S_c M_St_coder := am_ok_ofY (Y := Y_St) (cd := cd_St_coder) (by decide +kernel) rfl rfl rfl oY_St (by decide +kernel)
theorem i_St_coder_3 : am_I1 S_c M_St_coder 3 3 (.ifCond .eq 10) (xJ 13) := ⟨sys_c, ok_St_coder, rfl⟩
theorem i_St_coder_6 : am_I1 S_c M_St_coder 6 1 (.aload_n 0) (xN) := ⟨sys_c, ok_St_coder, rfl⟩
theorem i_St_coder_10 : am_I1 S_c M_St_coder 10 3 (.goto 4) (xJ 14) := ⟨sys_c, ok_St_coder, rfl⟩
theorem i_St_coder_14 : am_I1 S_c M_St_coder 14 1 (.ireturn) (xN) := ⟨sys_c, ok_St_coder, rfl⟩
def cd_St_charAt : List (Option am_I) := [some (.aload_n 0, 1, xN), some (.invokevirtual 492, 3, xN), none, none, some (.ifCond .eq 12, 3, xJ 16), none, none, some (.aload_n 0, 1, xN), none, none, none, some (.iload_n 1, 1, xN), some (.invokestatic 495, 3, xN), none, none, some (.ireturn, 1, xN)]
def M_St_charAt : am_Me := (⟨"java/lang/String", "charAt", "(I)C"⟩, prog_19_method_56_code, 2, (some .char), Y_St, cd_St_charAt, 3, 64, 0, 0)
set_option maxRecDepth 100000 in
theorem ok_St_charAt : am_ok S_c M_St_charAt := am_ok_ofY (Y := Y_St) (cd := cd_St_charAt) (by decide +kernel) rfl rfl rfl oY_St (by decide +kernel)
theorem i_St_charAt_0 : am_I1 S_c M_St_charAt 0 1 (.aload_n 0) (xN) := ⟨sys_c, ok_St_charAt, rfl⟩
theorem i_St_charAt_1 : am_I1 S_c M_St_charAt 1 3 (.invokevirtual 492) (xN) := ⟨sys_c, ok_St_charAt, rfl⟩
theorem i_St_charAt_4 : am_I1 S_c M_St_charAt 4 3 (.ifCond .eq 12) (xJ 16) := ⟨sys_c, ok_St_charAt, rfl⟩
theorem i_St_charAt_7 : am_I1 S_c M_St_charAt 7 1 (.aload_n 0) (xN) := ⟨sys_c, ok_St_charAt, rfl⟩
theorem i_St_charAt_11 : am_I1 S_c M_St_charAt 11 1 (.iload_n 1) (xN) := ⟨sys_c, ok_St_charAt, rfl⟩
theorem i_St_charAt_12 : am_I1 S_c M_St_charAt 12 3 (.invokestatic 495) (xN) := ⟨sys_c, ok_St_charAt, rfl⟩
theorem i_St_charAt_15 : am_I1 S_c M_St_charAt 15 1 (.ireturn) (xN) := ⟨sys_c, ok_St_charAt, rfl⟩
def cd_St_isLatin1 : List (Option am_I) := [none, none, none, some (.ifCond .eq 14, 3, xJ 17), none, none, some (.aload_n 0, 1, xN), none, none, none, some (.ifCond .ne 7, 3, xJ 17), none, none, some (.iconst 1, 1, xI (1)), some (.goto 4, 3, xJ 18), none, none, none, some (.ireturn, 1, xN)]
def M_St_isLatin1 : am_Me := (⟨"java/lang/String", "isLatin1", "()Z"⟩, prog_19_method_154_code, 1, (some .boolean), Y_St, cd_St_isLatin1, 0, 0, 0, 0)
set_option maxRecDepth 100000 in
theorem ok_St_isLatin1 : am_ok S_c M_St_isLatin1 := am_ok_ofY (Y := Y_St) (cd := cd_St_isLatin1) (by decide +kernel) rfl rfl rfl oY_St (by decide +kernel)
theorem i_St_isLatin1_3 : am_I1 S_c M_St_isLatin1 3 3 (.ifCond .eq 14) (xJ 17) := ⟨sys_c, ok_St_isLatin1, rfl⟩
theorem i_St_isLatin1_6 : am_I1 S_c M_St_isLatin1 6 1 (.aload_n 0) (xN) := ⟨sys_c, ok_St_isLatin1, rfl⟩
theorem i_St_isLatin1_10 : am_I1 S_c M_St_isLatin1 10 3 (.ifCond .ne 7) (xJ 17) := ⟨sys_c, ok_St_isLatin1, rfl⟩
theorem i_St_isLatin1_13 : am_I1 S_c M_St_isLatin1 13 1 (.iconst 1) (xI (1)) := ⟨sys_c, ok_St_isLatin1, rfl⟩
theorem i_St_isLatin1_14 : am_I1 S_c M_St_isLatin1 14 3 (.goto 4) (xJ 18) := ⟨sys_c, ok_St_isLatin1, rfl⟩
theorem i_St_isLatin1_18 : am_I1 S_c M_St_isLatin1 18 1 (.ireturn) (xN) := ⟨sys_c, ok_St_isLatin1, rfl⟩
def cd_St_check : List (Option am_I) := [some (.iload_n 0, 1, xN), some (.iload_n 1, 1, xN), none, none, none, none, none, none, none, some (.return_, 1, xN)]
def M_St_check : am_Me := (⟨"java/lang/String", "checkIndex", "(II)V"⟩, prog_19_method_155_code, 2, none, Y_St, cd_St_check, 1, 22, 0, 0)
set_option maxRecDepth 100000 in
theorem ok_St_check : am_ok S_c M_St_check := am_ok_ofY (Y := Y_St) (cd := cd_St_check) (by decide +kernel) rfl rfl rfl oY_St (by decide +kernel)
theorem i_St_check_0 : am_I1 S_c M_St_check 0 1 (.iload_n 0) (xN) := ⟨sys_c, ok_St_check, rfl⟩
theorem i_St_check_1 : am_I1 S_c M_St_check 1 1 (.iload_n 1) (xN) := ⟨sys_c, ok_St_check, rfl⟩
theorem i_St_check_9 : am_I1 S_c M_St_check 9 1 (.return_) (xN) := ⟨sys_c, ok_St_check, rfl⟩
def cd_La_charAt : List (Option am_I) := [some (.iload_n 1, 1, xN), some (.aload_n 0, 1, xN), none, some (.invokestatic 9, 3, xN), none, none, some (.aload_n 0, 1, xN), some (.iload_n 1, 1, xN), none, some (.sipush 255, 3, xI (255)), none, none, some (.iand, 1, xN), some (.i2c, 1, xN), some (.ireturn, 1, xN)]
def M_La_charAt : am_Me := (⟨"java/lang/StringLatin1", "charAt", "([BI)C"⟩, prog_20_method_2_code, 2, (some .char), Y_La, cd_La_charAt, 2, 43, 0, 0)
set_option maxRecDepth 100000 in
theorem ok_La_charAt : am_ok S_c M_La_charAt := am_ok_ofY (Y := Y_La) (cd := cd_La_charAt) (by decide +kernel) rfl rfl rfl oY_La (by decide +kernel)
theorem i_La_charAt_0 : am_I1 S_c M_La_charAt 0 1 (.iload_n 1) (xN) := ⟨sys_c, ok_La_charAt, rfl⟩
theorem i_La_charAt_1 : am_I1 S_c M_La_charAt 1 1 (.aload_n 0) (xN) := ⟨sys_c, ok_La_charAt, rfl⟩
theorem i_La_charAt_3 : am_I1 S_c M_La_charAt 3 3 (.invokestatic 9) (xN) := ⟨sys_c, ok_La_charAt, rfl⟩
theorem i_La_charAt_6 : am_I1 S_c M_La_charAt 6 1 (.aload_n 0) (xN) := ⟨sys_c, ok_La_charAt, rfl⟩
theorem i_La_charAt_7 : am_I1 S_c M_La_charAt 7 1 (.iload_n 1) (xN) := ⟨sys_c, ok_La_charAt, rfl⟩
theorem i_La_charAt_9 : am_I1 S_c M_La_charAt 9 3 (.sipush 255) (xI (255)) := ⟨sys_c, ok_La_charAt, rfl⟩
theorem i_La_charAt_12 : am_I1 S_c M_La_charAt 12 1 (.iand) (xN) := ⟨sys_c, ok_La_charAt, rfl⟩
theorem i_La_charAt_13 : am_I1 S_c M_La_charAt 13 1 (.i2c) (xN) := ⟨sys_c, ok_La_charAt, rfl⟩
theorem i_La_charAt_14 : am_I1 S_c M_La_charAt 14 1 (.ireturn) (xN) := ⟨sys_c, ok_La_charAt, rfl⟩
set_option maxRecDepth 100000 in
theorem lk_len_coder : am_lk S_c M_St_length M_St_coder 335 false 0 := ⟨fun _ => (by rw [ht_c]; exact (am_in_g (tl := lw_tbl) (h := 730) (w := .methodLink "java/lang/String" 335 (am_nm M_St_coder)) (by decide +kernel) rfl)), fun h => (by cases h), (by rw [ht_c]; exact (am_in_g (tl := lw_tbl) (h := 733) (w := .code (am_nm M_St_coder) (am_cc M_St_coder) (am_mx M_St_coder) (am_rt M_St_coder)) (by decide +kernel) rfl)), (by rw [ht_c]; exact (am_in_g (tl := lw_tbl) (h := 127) (w := .initialized (am_nm M_St_coder).cls) (by decide +kernel) rfl)), ⟨by decide +kernel, by decide +kernel, by decide +kernel⟩, by decide, rfl, rfl, by decide⟩
set_option maxRecDepth 100000 in
theorem lk_chr_lat : am_lk S_c M_St_charAt M_St_isLatin1 492 false 0 := ⟨fun _ => (by rw [ht_c]; exact (am_in_g (tl := lw_tbl) (h := 740) (w := .methodLink "java/lang/String" 492 (am_nm M_St_isLatin1)) (by decide +kernel) rfl)), fun h => (by cases h), (by rw [ht_c]; exact (am_in_g (tl := lw_tbl) (h := 743) (w := .code (am_nm M_St_isLatin1) (am_cc M_St_isLatin1) (am_mx M_St_isLatin1) (am_rt M_St_isLatin1)) (by decide +kernel) rfl)), (by rw [ht_c]; exact (am_in_g (tl := lw_tbl) (h := 127) (w := .initialized (am_nm M_St_isLatin1).cls) (by decide +kernel) rfl)), ⟨by decide +kernel, by decide +kernel, by decide +kernel⟩, by decide, rfl, rfl, by decide⟩
set_option maxRecDepth 100000 in
theorem lk_chr_la : am_lk S_c M_St_charAt M_La_charAt 495 false 2 := ⟨fun _ => (by rw [ht_c]; exact (am_in_g (tl := lw_tbl) (h := 744) (w := .methodLink "java/lang/String" 495 (am_nm M_La_charAt)) (by decide +kernel) rfl)), fun h => (by cases h), (by rw [ht_c]; exact (am_in_g (tl := lw_tbl) (h := 746) (w := .code (am_nm M_La_charAt) (am_cc M_La_charAt) (am_mx M_La_charAt) (am_rt M_La_charAt)) (by decide +kernel) rfl)), (by rw [ht_c]; exact (am_in_g (tl := lw_tbl) (h := 128) (w := .initialized (am_nm M_La_charAt).cls) (by decide +kernel) rfl)), ⟨by decide +kernel, by decide +kernel, by decide +kernel⟩, by decide, rfl, rfl, by decide⟩
set_option maxRecDepth 100000 in
theorem lk_la_ck : am_lk S_c M_La_charAt M_St_check 9 false 2 := ⟨fun _ => (by rw [ht_c]; exact (am_in_g (tl := lw_tbl) (h := 747) (w := .methodLink "java/lang/StringLatin1" 9 (am_nm M_St_check)) (by decide +kernel) rfl)), fun h => (by cases h), (by rw [ht_c]; exact (am_in_g (tl := lw_tbl) (h := 749) (w := .code (am_nm M_St_check) (am_cc M_St_check) (am_mx M_St_check) (am_rt M_St_check)) (by decide +kernel) rfl)), (by rw [ht_c]; exact (am_in_g (tl := lw_tbl) (h := 127) (w := .initialized (am_nm M_St_check).cls) (by decide +kernel) rfl)), ⟨by decide +kernel, by decide +kernel, by decide +kernel⟩, by decide, rfl, rfl, by decide⟩
theorem sk_small {i : Nat} (hi : i < 10) : ss_len.getD i 0 < 2 ^ 31 := by
  have hb : ∀ i, i < 10 → ss_len.getD i 0 < 2 ^ 31 := by decide
  exact hb i hi
theorem t_St_coder {i : Nat} {σ : am_S} (hi : i < 10) : am_Mt S_c M_St_coder [.ref (68 + i)] σ (fun q τ => q = some (.int 0) ∧ τ = σ) := by
  refine am_M_of ok_St_coder (Nat.le_of_ble_eq_true rfl) ?_
  refine a_ks rfl (by decide +kernel) ?_
  refine a_iff i_St_coder_3 (by show ¬ (1 : Int32) = 0; decide) ?_
  refine a_aload_n i_St_coder_6 rfl ?_
  refine a_kc rfl (by decide +kernel) hi ?_
  refine a_goto i_St_coder_10 ?_
  exact am_ret_n ok_St_coder rfl (by decide +kernel) rfl ⟨rfl, rfl⟩
theorem t_St_isLatin1 {i : Nat} {σ : am_S} (hi : i < 10) : am_Mt S_c M_St_isLatin1 [.ref (68 + i)] σ (fun q τ => q = some (.int 1) ∧ τ = σ) := by
  refine am_M_of ok_St_isLatin1 (Nat.le_of_ble_eq_true rfl) ?_
  refine a_ks rfl (by decide +kernel) ?_
  refine a_iff i_St_isLatin1_3 (by show ¬ (1 : Int32) = 0; decide) ?_
  refine a_aload_n i_St_isLatin1_6 rfl ?_
  refine a_kc rfl (by decide +kernel) hi ?_
  refine a_iff i_St_isLatin1_10 rfl ?_
  refine a_iconst i_St_isLatin1_13 ?_
  refine a_goto i_St_isLatin1_14 ?_
  exact am_ret_n ok_St_isLatin1 rfl (by decide +kernel) rfl ⟨rfl, rfl⟩
theorem t_St_length {i : Nat} {σ : am_S} (hi : i < 10) : am_Mt S_c M_St_length [.ref (68 + i)] σ (fun q τ => q = some (.int (nI (ss_len.getD i 0))) ∧ τ = σ) := by
  refine am_M_of ok_St_length (Nat.le_of_ble_eq_true rfl) ?_
  refine a_aload_n i_St_length_0 rfl ?_
  refine a_kv rfl (by decide +kernel) hi ?_
  refine a_kl (by decide +kernel) hi rfl ?_
  refine a_aload_n i_St_length_5 rfl ?_
  refine a_kcv (as := []) (rest := [.int (nI (ss_len.getD i 0))]) ok_St_length rfl lk_len_coder (by rw [ht_c]; exact (am_in_g (tl := lw_tbl) (h := 731) (w := .instanceMethod (am_nm M_St_coder)) (by decide +kernel) rfl)) (by rw [ht_c]; exact (am_in_g (tl := lw_tbl) (h := 732) (w := .selects (am_nm M_St_coder).cls (am_nm M_St_coder) (am_nm M_St_coder)) (by decide +kernel) rfl)) rfl hi rfl (Nat.le_of_ble_eq_true rfl) (t_St_coder hi) ?_
  refine a_ishr i_St_length_9 ?_
  rw [sc_shr0 (sk_small hi)]
  exact am_ret_i ok_St_length rfl rfl ⟨rfl, rfl⟩
theorem wt_run0 {p : Program} {l : Launch} {e : Env} {R : Room} {s : State} {m : MethodId} {args : Array Value} {below : List Frame} {meth : Method} {c : Code} {H : Heap} {locs : List Loc} {cells slots : Nat} {Q : State → Prop} {pc : Nat} {ls : Array Slot} {st0 rest : List Value} {v0 : Value} (hr : va_Run p l e R s m args below meth c H locs cells slots 0 0 (F0 m pc ls st0) rest (fun st oc t => oc = .returned (some v0) ∧ t.heap = st.heap) (fun _ => False)) (kk : W p l e R s m args below meth c H locs cells slots Q (F0 m (pc + 3) ls (v0 :: rest))) : W p l e R s m args below meth c H locs cells slots Q (F0 m pc ls st0) := by
  intro T hT X
  obtain ⟨v, st₀, t, T', L, h0, X', hL, e1, e2, ⟨q1, q2⟩, st⟩ := hr T hT X
  have hv : v = some v0 := Outcome.returned.inj q1
  subst hv
  have hL0 : L = [] := by
    cases L with
    | nil => rfl
    | cons a b => exact (hL a List.mem_cons_self).elim
  subst hL0
  rw [List.append_nil] at X'
  obtain ⟨t2, a1, b1⟩ := kk T' (e1.trans (q2.trans h0)) X'
  exact ⟨t2, st t2 a1, b1⟩
def rm_pre : Room := { frames := 0, cells := 0, slots := 0, locals := 0 }
theorem kp_pre (l : Launch) (i n : Int32) (u : Value) (hu : u.category = 1) (h0 : ¬ i < 0) (hn : i < n) : Met l ⟨"jdk/internal/util/Preconditions", "checkIndex", "(IILjava/util/function/BiFunction;)I"⟩ (Cond.code ⟨"jdk/internal/util/Preconditions", "checkIndex", "(IILjava/util/function/BiFunction;)I"⟩ prog_23_method_11_code 3 (some .int) :: tw_) rm_pre (fun v _ => v = [Value.int i, .int n, u].toArray) (fun _ st oc t => oc = .returned (some (.int i)) ∧ t.heap = st.heap) 0 0 (fun _ => False) := by
  refine Met.ofW (cc := prog_23_method_11_code) (maxL := 3) (ret := some .int) (by decide +kernel) rfl ?_
  intro p e s m args below meth c s₁ B hml hv
  subst hv
  have hx := B.exec
  have hb := B.bytes
  have hr := B.returns
  have hlen : (lg_sl [Value.int i, .int n, u]).length ≤ 3 := by
    have e9 : lg_sl [Value.int i, .int n, u] = [Slot.val (.int i), .val (.int n), .val u] := by
      show ([Value.int i, .int n, u].flatMap fun v => if v.category = 2 then [Slot.val v, .second] else [.val v]) = _
      simp only [List.flatMap_cons, List.flatMap_nil, hu]
      rfl
    rw [e9]
    exact Nat.le_refl 3
  have hl := lv_entry [Value.int i, .int n, u] (n := 3) hlen
  rw [lg_entry_eq]
  have h1 : (Value.int i).category = 1 := rfl
  have hl0 : lv_has (lg_sl [Value.int i, .int n, u] ++ List.replicate (3 - (lg_sl [Value.int i, .int n, u]).length) Slot.unset).toArray 3 [(0, .int i), (1, .int n)] := ⟨hl.1, hl.2.1, fun q hq => by
    refine hl.2.2 q ?_
    simp [lv_args] at hq ⊢
    rcases hq with rfl | rfl
    · first | exact Or.inl rfl | simp
    · first | exact Or.inr (Or.inl rfl) | simp [Value.category]⟩
  generalize (lg_sl [Value.int i, .int n, u] ++ List.replicate (3 - (lg_sl [Value.int i, .int n, u]).length) Slot.unset).toArray = ls at hl0 ⊢
  refine lv_iload_n hx hb (by decide +kernel : decode prog_23_method_11_code 0 = .ok (.iload_n 0, 1)) rfl (lv_at hl0 0 rfl) ?_
  refine lv_if_lt (tgt := 9) hx hb (by decide +kernel : decode prog_23_method_11_code 1 = .ok (.ifCond .lt 8, 3)) rfl (fun h => absurd h h0) (fun _ => ?_)
  refine lv_iload_n hx hb (by decide +kernel : decode prog_23_method_11_code 4 = .ok (.iload_n 0, 1)) rfl (lv_at hl0 0 rfl) ?_
  refine lv_iload_n hx hb (by decide +kernel : decode prog_23_method_11_code 5 = .ok (.iload_n 1, 1)) rfl (lv_at hl0 1 rfl) ?_
  refine lv_icmp_lt (tgt := 16) hx hb (by decide +kernel : decode prog_23_method_11_code 6 = .ok (.if_icmp .lt 10, 3)) rfl (fun _ => ?_) (fun h => absurd hn h)
  refine lv_iload_n hx hb (by decide +kernel : decode prog_23_method_11_code 16 = .ok (.iload_n 0, 1)) rfl (lv_at hl0 0 rfl) ?_
  exact W.iret hx hb hr (fun t ht hW => ⟨rfl, ht⟩) (fun q hq => by cases hq) (by decide +kernel : decode prog_23_method_11_code 17 = .ok (.ireturn, 1)) B.notSynchronized
set_option maxHeartbeats 2000000 in
set_option maxRecDepth 100000 in
theorem t_St_check {i n : Int32} {σ : am_S} (h0 : ¬ i < 0) (hn : i < n) : am_Mt S_c M_St_check [.int i, .int n] σ (fun q τ => q = none ∧ τ = σ) := by
  intro l hl9 D ca ρ sz
  refine Met.ofW (cc := am_cc M_St_check) (maxL := 2) (ret := none) (by decide +kernel) rfl ?_
  intro p e s m args below meth c s₁ B hml hv
  obtain ⟨rfl, hsz, hP, hD, hX⟩ := hv
  have hx := B.exec
  have hb := B.bytes
  have hr := B.returns
  have hts := atoms_spec (ws := am_wm S_c M_St_check) B.pre
  have hown : s.vm.findClass "java/lang/String" = some m.cls := findClass_of_methodNamed B.named
  have htw : ∀ w ∈ tw_, w.before _ s = true := fun w h => hts w (List.mem_cons_of_mem _ h)
  subst hsz
  have hl := lv_entry ([Value.int i, .int n]) (n := 2) (Nat.le_of_ble_eq_true rfl)
  rw [show ([Value.int i, .int n].map (am_v ρ)) = [Value.int i, .int n] from rfl, lg_entry_eq]
  generalize (lg_sl ([Value.int i, .int n]) ++ List.replicate (2 - (lg_sl ([Value.int i, .int n])).length) Slot.unset).toArray = ls at hl ⊢
  have hl : lv_has ls 2 [(0, .int i), (1, .int n)] := hl
  obtain ⟨⟨u, hu, hz⟩, -⟩ := hX.2.2.2.2.1 ("jdk/internal/util/Preconditions", "SIOOBE_FORMATTER", "Ljava/util/function/BiFunction;") (List.mem_of_getElem? (i := 2) rfl)
  have huc : u.category = 1 := by cases u <;> first | rfl | cases hu
  refine lv_iload_n hx hb (ok_St_check.2.2.2.2.2 0 _ rfl).1 rfl (lv_at hl 0 rfl) ?_
  refine lv_iload_n hx hb (ok_St_check.2.2.2.2.2 1 _ rfl).1 rfl (lv_at hl 1 rfl) ?_
  refine va_gets (own := "java/lang/String") (ref := "jdk/internal/util/Preconditions") (index := 1053) hx hb hz (va_S.rf (A := am_Ar S_c ρ s.heap.size)) hown (htw _ (am_in_g (tl := lw_tbl) (h := 750) (w := .fieldLink "java/lang/String" 1053 "jdk/internal/util/Preconditions" "SIOOBE_FORMATTER" "Ljava/util/function/BiFunction;") (by decide +kernel) rfl)) (fun x h => h) (by decide +kernel : decode prog_19_method_155_code 2 = .ok (.getstatic 1053, 3)) ?_
  have hgd : GoodIn (am_wm S_c M_St_check) (Cond.code ⟨"jdk/internal/util/Preconditions", "checkIndex", "(IILjava/util/function/BiFunction;)I"⟩ prog_23_method_11_code 3 (some .int) :: tw_) := by
    intro w hw
    have h1 : w ∈ tw_ := by
      rcases List.mem_cons.mp hw with e9 | e9
      · rw [e9]; exact (am_in_g (tl := lw_tbl) (h := 754) (w := .code ⟨"jdk/internal/util/Preconditions", "checkIndex", "(IILjava/util/function/BiFunction;)I"⟩ prog_23_method_11_code 3 (some .int)) (by decide +kernel) rfl)
      · exact e9
    exact ⟨List.mem_cons_of_mem _ (by rw [ht_c]; exact h1), good_of_word ((List.mem_filter.mp h1).2)⟩
  refine wt_run0 (v0 := .int i) (va_runS (As := [.int i, .int n, u]) (rest := []) ⟨hx, hb, hml, hown, hts⟩ (kp_pre l i n u huc h0 hn) ⟨callB_of 3 hts hgd rfl rfl rfl (htw _ (am_in_g (tl := lw_tbl) (h := 129) (w := .initialized "jdk/internal/util/Preconditions") (by decide +kernel) rfl)) (htw _ (am_in_g (tl := lw_tbl) (h := 752) (w := .methodLink "java/lang/String" 1059 ⟨"jdk/internal/util/Preconditions", "checkIndex", "(IILjava/util/function/BiFunction;)I"⟩) (by decide +kernel) rfl)) ⟨by decide +kernel, by decide +kernel, by decide +kernel⟩ ⟨by decide, by decide⟩, htw _ (am_in_g (tl := lw_tbl) (h := 753) (w := .static ⟨"jdk/internal/util/Preconditions", "checkIndex", "(IILjava/util/function/BiFunction;)I"⟩) (by decide +kernel) rfl)⟩ ⟨fun a U g mk h => h, fun U hU hW => rfl⟩ rfl rfl hl.1 rfl (lv_room (Nat.le_of_ble_eq_true rfl)) (by decide +kernel : decode prog_19_method_155_code 5 = .ok (.invokestatic 1059, 3)) ⟨Nat.zero_le _, Nat.zero_le _⟩) ?_
  refine lv_pop hx hb (by decide +kernel : decode prog_19_method_155_code 8 = .ok (.pop, 1)) rfl ?_
  exact W.vret hx hb hr (fun t ht hW => ⟨⟨none, σ, rfl, ⟨rfl, rfl⟩, by rw [ht]; exact hP⟩, va_S.rf.F ht⟩) (fun q hq => by cases hq) (ok_St_check.2.2.2.2.2 9 _ rfl).1 B.notSynchronized
theorem sk_in {i : Nat} {a : Int32} (hi : i < 10) (h0 : ¬ a < 0) (hn : a < nI (ss_len.getD i 0)) : vp_in a (ss_len.getD i 0) := by
  have hb : ∀ i, i < 10 → ss_len.getD i 0 ≤ 100 := by decide
  have hb := hb i hi
  have h1 : (0 : Int) ≤ a.toInt := by
    have := Int32.le_iff_toInt_le.mp (Int32.not_lt.mp h0)
    simpa using this
  have h2 := Int32.lt_iff_toInt_lt.mp hn
  have h3 : (nI (ss_len.getD i 0)).toInt = ((ss_len.getD i 0 : Nat) : Int) := by
    generalize ss_len.getD i 0 = k at hb
    simp [nI, Int32.toInt_ofNat, Int.bmod]
    omega
  rw [h3] at h2
  intro h
  rcases h with h | h
  · exact h0 h
  · have : (a.toNatClampNeg : Int) = a.toInt := by
      show ((a.toInt.toNat : Nat) : Int) = a.toInt
      omega
    omega
def sk_ch (i : Nat) (a : Int32) : Int32 := (ss_byt.getD i []).getD a.toNatClampNeg 0 &&& 255
theorem t_La_charAt {i : Nat} {a : Int32} {σ : am_S} (hi : i < 10) (h0 : ¬ a < 0) (hn : a < nI (ss_len.getD i 0)) : am_Mt S_c M_La_charAt [.ref (78 + i), .int a] σ (fun q τ => q = some (.int (sk_ch i a)) ∧ τ = σ) := by
  refine am_M_of ok_La_charAt (Nat.le_of_ble_eq_true rfl) ?_
  refine a_iload_n i_La_charAt_0 rfl ?_
  refine a_aload_n i_La_charAt_1 rfl ?_
  refine a_kl (by decide +kernel) hi rfl ?_
  refine am_callS (as := [.int a, .int (nI (ss_len.getD i 0))]) (rest := []) sys_c ok_La_charAt rfl lk_la_ck (by rw [ht_c]; exact (am_in_g (tl := lw_tbl) (h := 748) (w := .static (am_nm M_St_check)) (by decide +kernel) rfl)) rfl (Nat.le_of_ble_eq_true rfl) (t_St_check h0 hn) (fun r9 σ9 h9 => ?_)
  obtain ⟨e1, e2⟩ := h9
  rw [e1, e2]
  refine a_aload_n i_La_charAt_6 rfl ?_
  refine a_iload_n i_La_charAt_7 rfl ?_
  refine a_kb (by decide +kernel) hi (sk_in hi h0 hn) ?_
  refine a_sipush i_La_charAt_9 ?_
  refine a_iand i_La_charAt_12 ?_
  refine a_i2c i_La_charAt_13 ?_
  rw [sc_c2]
  exact am_ret_n ok_La_charAt rfl (sc_nar _) rfl ⟨rfl, rfl⟩
theorem t_St_charAt {i : Nat} {a : Int32} {σ : am_S} (hi : i < 10) (h0 : ¬ a < 0) (hn : a < nI (ss_len.getD i 0)) : am_Mt S_c M_St_charAt [.ref (68 + i), .int a] σ (fun q τ => q = some (.int (sk_ch i a)) ∧ τ = σ) := by
  refine am_M_of ok_St_charAt (Nat.le_of_ble_eq_true rfl) ?_
  refine a_aload_n i_St_charAt_0 rfl ?_
  refine a_kcv (as := []) (rest := []) ok_St_charAt rfl lk_chr_lat (by rw [ht_c]; exact (am_in_g (tl := lw_tbl) (h := 741) (w := .instanceMethod (am_nm M_St_isLatin1)) (by decide +kernel) rfl)) (by rw [ht_c]; exact (am_in_g (tl := lw_tbl) (h := 742) (w := .selects (am_nm M_St_isLatin1).cls (am_nm M_St_isLatin1) (am_nm M_St_isLatin1)) (by decide +kernel) rfl)) rfl hi rfl (Nat.le_of_ble_eq_true rfl) (t_St_isLatin1 hi) ?_
  refine a_iff i_St_charAt_4 (by show ¬ (1 : Int32) = 0; decide) ?_
  refine a_aload_n i_St_charAt_7 rfl ?_
  refine a_kv rfl (by decide +kernel) hi ?_
  refine a_iload_n i_St_charAt_11 rfl ?_
  refine am_callS (as := [.ref (78 + i), .int a]) (rest := []) sys_c ok_St_charAt rfl lk_chr_la (by rw [ht_c]; exact (am_in_g (tl := lw_tbl) (h := 745) (w := .static (am_nm M_La_charAt)) (by decide +kernel) rfl)) rfl (Nat.le_of_ble_eq_true rfl) (t_La_charAt hi h0 hn) (fun r9 σ9 h9 => ?_)
  obtain ⟨e1, e2⟩ := h9
  rw [e1, e2]
  exact am_ret_n ok_St_charAt rfl (sc_nar _) rfl ⟨rfl, rfl⟩
def cd_Se_titleOf : List (Option am_I) := [some (.iload_n 0, 1, xN), some (.tableswitch 78 0 8 #[51, 54, 57, 60, 63, 66, 69, 72, 75], 51, xN)]
def M_Se_titleOf : am_Me := (⟨"FrameFinder$Sections", "titleOf", "(I)Ljava/lang/String;"⟩, prog_9_method_10_code, 1, (some (.object "java/lang/String")), Y_Se, cd_Se_titleOf, 0, 0, 0, 0)
set_option maxRecDepth 100000 in
theorem ok_Se_titleOf : am_ok S_c M_Se_titleOf := am_ok_ofY (Y := Y_Se) (cd := cd_Se_titleOf) (by decide +kernel) rfl rfl rfl oY_Se (by decide +kernel)
theorem i_Se_titleOf_0 : am_I1 S_c M_Se_titleOf 0 1 (.iload_n 0) xN := ⟨sys_c, ok_Se_titleOf, rfl⟩
theorem i_Se_titleOf_1 : am_I1 S_c M_Se_titleOf 1 51 (.tableswitch 78 0 8 #[51, 54, 57, 60, 63, 66, 69, 72, 75]) xN := ⟨sys_c, ok_Se_titleOf, rfl⟩
def tix (s : Int32) : Nat := if s = 0 then 0 else if s = 1 then 1 else if s = 2 then 2 else if s = 3 then 3 else if s = 4 then 4 else if s = 5 then 5 else if s = 6 then 6 else if s = 7 then 7 else if s = 8 then 8 else 9
theorem tix_lt (s : Int32) : tix s < 10 := by
  unfold tix
  repeat (first | (split; decide) | decide)
theorem t_Se_titleOf {s : Int32} {σ : am_S} : am_Mt S_c M_Se_titleOf [.int s] σ (fun q τ => q = some (.ref (68 + tix s)) ∧ τ = σ) := by
  refine am_M_of ok_Se_titleOf (Nat.le_of_ble_eq_true rfl) ?_
  refine a_iload_n i_Se_titleOf_0 rfl ?_
  by_cases d0 : s = 0
  · refine a_tab 0 i_Se_titleOf_1 rfl (by rw [d0]; decide) (by decide) rfl ?_
    refine a_kd (i := 0) rfl (by decide +kernel : decode prog_9_method_10_code 52 = .ok (.ldc 127, 2)) (by decide) rfl ?_
    exact am_ret_a rfl (by decide +kernel : decode prog_9_method_10_code 54 = .ok (.areturn, 1)) ⟨by rw [tix, if_pos d0], rfl⟩
  by_cases d1 : s = 1
  · refine a_tab 1 i_Se_titleOf_1 rfl (by rw [d1]; decide) (by decide) rfl ?_
    refine a_kd (i := 1) rfl (by decide +kernel : decode prog_9_method_10_code 55 = .ok (.ldc 129, 2)) (by decide) rfl ?_
    exact am_ret_a rfl (by decide +kernel : decode prog_9_method_10_code 57 = .ok (.areturn, 1)) ⟨by rw [tix, if_neg d0, if_pos d1], rfl⟩
  by_cases d2 : s = 2
  · refine a_tab 2 i_Se_titleOf_1 rfl (by rw [d2]; decide) (by decide) rfl ?_
    refine a_kd (i := 2) rfl (by decide +kernel : decode prog_9_method_10_code 58 = .ok (.ldc 131, 2)) (by decide) rfl ?_
    exact am_ret_a rfl (by decide +kernel : decode prog_9_method_10_code 60 = .ok (.areturn, 1)) ⟨by rw [tix, if_neg d0, if_neg d1, if_pos d2], rfl⟩
  by_cases d3 : s = 3
  · refine a_tab 3 i_Se_titleOf_1 rfl (by rw [d3]; decide) (by decide) rfl ?_
    refine a_kd (i := 3) rfl (by decide +kernel : decode prog_9_method_10_code 61 = .ok (.ldc 133, 2)) (by decide) rfl ?_
    exact am_ret_a rfl (by decide +kernel : decode prog_9_method_10_code 63 = .ok (.areturn, 1)) ⟨by rw [tix, if_neg d0, if_neg d1, if_neg d2, if_pos d3], rfl⟩
  by_cases d4 : s = 4
  · refine a_tab 4 i_Se_titleOf_1 rfl (by rw [d4]; decide) (by decide) rfl ?_
    refine a_kd (i := 4) rfl (by decide +kernel : decode prog_9_method_10_code 64 = .ok (.ldc 135, 2)) (by decide) rfl ?_
    exact am_ret_a rfl (by decide +kernel : decode prog_9_method_10_code 66 = .ok (.areturn, 1)) ⟨by rw [tix, if_neg d0, if_neg d1, if_neg d2, if_neg d3, if_pos d4], rfl⟩
  by_cases d5 : s = 5
  · refine a_tab 5 i_Se_titleOf_1 rfl (by rw [d5]; decide) (by decide) rfl ?_
    refine a_kd (i := 5) rfl (by decide +kernel : decode prog_9_method_10_code 67 = .ok (.ldc 137, 2)) (by decide) rfl ?_
    exact am_ret_a rfl (by decide +kernel : decode prog_9_method_10_code 69 = .ok (.areturn, 1)) ⟨by rw [tix, if_neg d0, if_neg d1, if_neg d2, if_neg d3, if_neg d4, if_pos d5], rfl⟩
  by_cases d6 : s = 6
  · refine a_tab 6 i_Se_titleOf_1 rfl (by rw [d6]; decide) (by decide) rfl ?_
    refine a_kd (i := 6) rfl (by decide +kernel : decode prog_9_method_10_code 70 = .ok (.ldc 139, 2)) (by decide) rfl ?_
    exact am_ret_a rfl (by decide +kernel : decode prog_9_method_10_code 72 = .ok (.areturn, 1)) ⟨by rw [tix, if_neg d0, if_neg d1, if_neg d2, if_neg d3, if_neg d4, if_neg d5, if_pos d6], rfl⟩
  by_cases d7 : s = 7
  · refine a_tab 7 i_Se_titleOf_1 rfl (by rw [d7]; decide) (by decide) rfl ?_
    refine a_kd (i := 7) rfl (by decide +kernel : decode prog_9_method_10_code 73 = .ok (.ldc 141, 2)) (by decide) rfl ?_
    exact am_ret_a rfl (by decide +kernel : decode prog_9_method_10_code 75 = .ok (.areturn, 1)) ⟨by rw [tix, if_neg d0, if_neg d1, if_neg d2, if_neg d3, if_neg d4, if_neg d5, if_neg d6, if_pos d7], rfl⟩
  by_cases d8 : s = 8
  · refine a_tab 8 i_Se_titleOf_1 rfl (by rw [d8]; decide) (by decide) rfl ?_
    refine a_kd (i := 8) rfl (by decide +kernel : decode prog_9_method_10_code 76 = .ok (.ldc 143, 2)) (by decide) rfl ?_
    exact am_ret_a rfl (by decide +kernel : decode prog_9_method_10_code 78 = .ok (.areturn, 1)) ⟨by rw [tix, if_neg d0, if_neg d1, if_neg d2, if_neg d3, if_neg d4, if_neg d5, if_neg d6, if_neg d7, if_pos d8], rfl⟩
  refine a_tabd i_Se_titleOf_1 (lw_out d0 d1 d2 d3 d4 d5 d6 d7 d8) rfl ?_
  refine a_kd (i := 9) rfl (by decide +kernel : decode prog_9_method_10_code 79 = .ok (.ldc 145, 2)) (by decide) rfl ?_
  exact am_ret_a rfl (by decide +kernel : decode prog_9_method_10_code 81 = .ok (.areturn, 1)) ⟨by rw [tix, if_neg d0, if_neg d1, if_neg d2, if_neg d3, if_neg d4, if_neg d5, if_neg d6, if_neg d7, if_neg d8], rfl⟩
theorem i_Se_isCalled_0 : am_I1 S_c M_Se_isCalled 0 1 (.iload_n 2) (xN) := ⟨sys_c, ok_Se_isCalled, rfl⟩
theorem i_Se_isCalled_1 : am_I1 S_c M_Se_isCalled 1 1 (.iload_n 1) (xN) := ⟨sys_c, ok_Se_isCalled, rfl⟩
theorem i_Se_isCalled_2 : am_I1 S_c M_Se_isCalled 2 1 (.isub) (xN) := ⟨sys_c, ok_Se_isCalled, rfl⟩
theorem i_Se_isCalled_3 : am_I1 S_c M_Se_isCalled 3 1 (.aload_n 3) (xN) := ⟨sys_c, ok_Se_isCalled, rfl⟩
theorem i_Se_isCalled_4 : am_I1 S_c M_Se_isCalled 4 3 (.invokevirtual 118) (xN) := ⟨sys_c, ok_Se_isCalled, rfl⟩
theorem i_Se_isCalled_7 : am_I1 S_c M_Se_isCalled 7 3 (.if_icmp .eq (5)) (xJ 12) := ⟨sys_c, ok_Se_isCalled, rfl⟩
theorem i_Se_isCalled_10 : am_I1 S_c M_Se_isCalled 10 1 (.iconst 0) (xI (0)) := ⟨sys_c, ok_Se_isCalled, rfl⟩
theorem i_Se_isCalled_11 : am_I1 S_c M_Se_isCalled 11 1 (.ireturn) (xN) := ⟨sys_c, ok_Se_isCalled, rfl⟩
theorem i_Se_isCalled_12 : am_I1 S_c M_Se_isCalled 12 1 (.iconst 0) (xI (0)) := ⟨sys_c, ok_Se_isCalled, rfl⟩
theorem i_Se_isCalled_13 : am_I1 S_c M_Se_isCalled 13 2 (.istore 4) (xN) := ⟨sys_c, ok_Se_isCalled, rfl⟩
theorem i_Se_isCalled_15 : am_I1 S_c M_Se_isCalled 15 2 (.iload 4) (xN) := ⟨sys_c, ok_Se_isCalled, rfl⟩
theorem i_Se_isCalled_17 : am_I1 S_c M_Se_isCalled 17 1 (.aload_n 3) (xN) := ⟨sys_c, ok_Se_isCalled, rfl⟩
theorem i_Se_isCalled_18 : am_I1 S_c M_Se_isCalled 18 3 (.invokevirtual 118) (xN) := ⟨sys_c, ok_Se_isCalled, rfl⟩
theorem i_Se_isCalled_21 : am_I1 S_c M_Se_isCalled 21 3 (.if_icmp .ge (29)) (xJ 50) := ⟨sys_c, ok_Se_isCalled, rfl⟩
theorem i_Se_isCalled_24 : am_I1 S_c M_Se_isCalled 24 1 (.aload_n 0) (xN) := ⟨sys_c, ok_Se_isCalled, rfl⟩
theorem i_Se_isCalled_25 : am_I1 S_c M_Se_isCalled 25 3 (.getfield 32) (xF 1 0 2) := ⟨sys_c, ok_Se_isCalled, rfl⟩
theorem i_Se_isCalled_28 : am_I1 S_c M_Se_isCalled 28 1 (.iload_n 1) (xN) := ⟨sys_c, ok_Se_isCalled, rfl⟩
theorem i_Se_isCalled_29 : am_I1 S_c M_Se_isCalled 29 2 (.iload 4) (xN) := ⟨sys_c, ok_Se_isCalled, rfl⟩
theorem i_Se_isCalled_31 : am_I1 S_c M_Se_isCalled 31 1 (.iadd) (xN) := ⟨sys_c, ok_Se_isCalled, rfl⟩
theorem i_Se_isCalled_32 : am_I1 S_c M_Se_isCalled 32 1 (.baload) (xJ 2) := ⟨sys_c, ok_Se_isCalled, rfl⟩
theorem i_Se_isCalled_33 : am_I1 S_c M_Se_isCalled 33 1 (.aload_n 3) (xN) := ⟨sys_c, ok_Se_isCalled, rfl⟩
theorem i_Se_isCalled_34 : am_I1 S_c M_Se_isCalled 34 2 (.iload 4) (xN) := ⟨sys_c, ok_Se_isCalled, rfl⟩
theorem i_Se_isCalled_36 : am_I1 S_c M_Se_isCalled 36 3 (.invokevirtual 123) (xN) := ⟨sys_c, ok_Se_isCalled, rfl⟩
theorem i_Se_isCalled_39 : am_I1 S_c M_Se_isCalled 39 3 (.if_icmp .eq (5)) (xJ 44) := ⟨sys_c, ok_Se_isCalled, rfl⟩
theorem i_Se_isCalled_42 : am_I1 S_c M_Se_isCalled 42 1 (.iconst 0) (xI (0)) := ⟨sys_c, ok_Se_isCalled, rfl⟩
theorem i_Se_isCalled_43 : am_I1 S_c M_Se_isCalled 43 1 (.ireturn) (xN) := ⟨sys_c, ok_Se_isCalled, rfl⟩
theorem i_Se_isCalled_44 : am_I1 S_c M_Se_isCalled 44 3 (.iinc 4 (1)) (xI (1)) := ⟨sys_c, ok_Se_isCalled, rfl⟩
theorem i_Se_isCalled_47 : am_I1 S_c M_Se_isCalled 47 3 (.goto (-32)) (xJ 15) := ⟨sys_c, ok_Se_isCalled, rfl⟩
theorem i_Se_isCalled_50 : am_I1 S_c M_Se_isCalled 50 1 (.iconst 1) (xI (1)) := ⟨sys_c, ok_Se_isCalled, rfl⟩
theorem i_Se_isCalled_51 : am_I1 S_c M_Se_isCalled 51 1 (.ireturn) (xN) := ⟨sys_c, ok_Se_isCalled, rfl⟩
set_option maxRecDepth 100000 in
theorem lk_ic_len : am_lk S_c M_Se_isCalled M_St_length 118 false 0 := ⟨fun _ => (by rw [ht_c]; exact (am_in_g (tl := lw_tbl) (h := 726) (w := .methodLink "FrameFinder$Sections" 118 (am_nm M_St_length)) (by decide +kernel) rfl)), fun h => (by cases h), (by rw [ht_c]; exact (am_in_g (tl := lw_tbl) (h := 729) (w := .code (am_nm M_St_length) (am_cc M_St_length) (am_mx M_St_length) (am_rt M_St_length)) (by decide +kernel) rfl)), (by rw [ht_c]; exact (am_in_g (tl := lw_tbl) (h := 127) (w := .initialized (am_nm M_St_length).cls) (by decide +kernel) rfl)), ⟨by decide +kernel, by decide +kernel, by decide +kernel⟩, by decide, rfl, rfl, by decide⟩
set_option maxRecDepth 100000 in
theorem lk_ic_chr : am_lk S_c M_Se_isCalled M_St_charAt 123 false 1 := ⟨fun _ => (by rw [ht_c]; exact (am_in_g (tl := lw_tbl) (h := 736) (w := .methodLink "FrameFinder$Sections" 123 (am_nm M_St_charAt)) (by decide +kernel) rfl)), fun h => (by cases h), (by rw [ht_c]; exact (am_in_g (tl := lw_tbl) (h := 739) (w := .code (am_nm M_St_charAt) (am_cc M_St_charAt) (am_mx M_St_charAt) (am_rt M_St_charAt)) (by decide +kernel) rfl)), (by rw [ht_c]; exact (am_in_g (tl := lw_tbl) (h := 127) (w := .initialized (am_nm M_St_charAt).cls) (by decide +kernel) rfl)), ⟨by decide +kernel, by decide +kernel, by decide +kernel⟩, by decide, rfl, rfl, by decide⟩
def g_Se_isCalled_15 : Nat → Nat → Int32 → Int32 → am_S → Option (Int32 × am_S)
  | 0, _, _, _, _ => none
  | n + 1, t, x1, x4, σ =>
    if x4 < nI (ss_len.getD t 0) then
      am_gd (inb (x1 + x4) 3000) <|
      am_gd (decide (¬ x4 < 0)) <|
      if (σ.2.1 1 (x1 + x4).toNatClampNeg) = sk_ch t x4 then g_Se_isCalled_15 n t x1 (x4 + 1) σ else some (0, σ)
    else some (1, σ)
def g_Se_isCalled (t : Nat) (x1 x2 : Int32) (σ : am_S) : Option (Int32 × am_S) := if x2 - x1 = nI (ss_len.getD t 0) then g_Se_isCalled_15 4000 t x1 0 σ else some (0, σ)
set_option maxHeartbeats 2000000 in
theorem t_Se_isCalled_15 {t : Nat} (ht : t < 10) : ∀ (n : Nat) {x1 x4 : Int32} {σ σ' : am_S} {r : Int32} (h : g_Se_isCalled_15 n t x1 x4 σ = some (r, σ')), am_A S_c M_Se_isCalled (15, [some (.ref 2), some (.int x1), none, some (.ref (68 + t)), some (.int x4)], [], σ) (am_r S_c (fun q τ => q = some (.int r) ∧ τ = σ')) := by
  intro n
  induction n with
  | zero =>
    intro x1 x4 σ σ' r h
    cases h
  | succ n ih =>
  intro x1 x4 σ σ' r h
  unfold g_Se_isCalled_15 at h
  refine a_iload i_Se_isCalled_15 rfl ?_
  refine a_aload_n i_Se_isCalled_17 rfl ?_
  refine a_kcv (as := []) (rest := [.int x4]) ok_Se_isCalled rfl lk_ic_len (by rw [ht_c]; exact (am_in_g (tl := lw_tbl) (h := 727) (w := .instanceMethod (am_nm M_St_length)) (by decide +kernel) rfl)) (by rw [ht_c]; exact (am_in_g (tl := lw_tbl) (h := 728) (w := .selects (am_nm M_St_length).cls (am_nm M_St_length) (am_nm M_St_length)) (by decide +kernel) rfl)) rfl ht rfl (Nat.le_of_ble_eq_true rfl) (t_St_length ht) ?_
  by_cases c1 : x4 < nI (ss_len.getD t 0)
  · rw [if_pos c1] at h
    refine a_icf i_Se_isCalled_21 (Int32.not_le.mpr c1) ?_
    refine a_aload_n i_Se_isCalled_24 rfl ?_
    refine a_get (v := .ref 1) i_Se_isCalled_25 rfl rfl ?_
    refine a_iload_n i_Se_isCalled_28 rfl ?_
    refine a_iload i_Se_isCalled_29 rfl ?_
    refine a_iadd i_Se_isCalled_31 ?_
    obtain ⟨c2, h⟩ := gd_some h
    obtain ⟨c3, h⟩ := gd_some h
    refine a_bal (n := 3000) i_Se_isCalled_32 rfl rfl (inb_in c2) ?_
    refine a_aload_n i_Se_isCalled_33 rfl ?_
    refine a_iload i_Se_isCalled_34 rfl ?_
    refine a_kcv (as := [.int x4]) (rest := [.int (σ.2.1 1 (x1 + x4).toNatClampNeg)]) ok_Se_isCalled rfl lk_ic_chr (by rw [ht_c]; exact (am_in_g (tl := lw_tbl) (h := 737) (w := .instanceMethod (am_nm M_St_charAt)) (by decide +kernel) rfl)) (by rw [ht_c]; exact (am_in_g (tl := lw_tbl) (h := 738) (w := .selects (am_nm M_St_charAt).cls (am_nm M_St_charAt) (am_nm M_St_charAt)) (by decide +kernel) rfl)) rfl ht rfl (Nat.le_of_ble_eq_true rfl) (t_St_charAt ht (of_decide_eq_true c3) c1) ?_
    by_cases c4 : (σ.2.1 1 (x1 + x4).toNatClampNeg) = sk_ch t x4
    · rw [if_pos c4] at h
      refine a_ict i_Se_isCalled_39 c4 ?_
      refine a_iinc i_Se_isCalled_44 rfl rfl ?_
      refine a_goto i_Se_isCalled_47 ?_
      exact ih h
    · rw [if_neg c4] at h
      refine a_icf i_Se_isCalled_39 c4 ?_
      refine a_iconst i_Se_isCalled_42 ?_
      exact am_ret_z ok_Se_isCalled rfl rfl (Or.inl rfl) (am_lf_i h)
  · rw [if_neg c1] at h
    refine a_ict i_Se_isCalled_21 (Int32.not_lt.mp c1) ?_
    refine a_iconst i_Se_isCalled_50 ?_
    exact am_ret_z ok_Se_isCalled rfl rfl (Or.inr rfl) (am_lf_i h)
theorem t_Se_isCalled {t : Nat} {x1 x2 : Int32} {σ σ' : am_S} {r : Int32} (ht : t < 10) (h : g_Se_isCalled t x1 x2 σ = some (r, σ')) : am_Mt S_c M_Se_isCalled [.ref 2, .int x1, .int x2, .ref (68 + t)] σ (fun q τ => q = some (.int r) ∧ τ = σ') := by
  refine am_M_of ok_Se_isCalled (Nat.le_of_ble_eq_true rfl) ?_
  unfold g_Se_isCalled at h
  refine a_iload_n i_Se_isCalled_0 rfl ?_
  refine a_iload_n i_Se_isCalled_1 rfl ?_
  refine a_isub i_Se_isCalled_2 ?_
  refine a_aload_n i_Se_isCalled_3 rfl ?_
  refine a_kcv (as := []) (rest := [.int (x2 - x1)]) ok_Se_isCalled rfl lk_ic_len (by rw [ht_c]; exact (am_in_g (tl := lw_tbl) (h := 727) (w := .instanceMethod (am_nm M_St_length)) (by decide +kernel) rfl)) (by rw [ht_c]; exact (am_in_g (tl := lw_tbl) (h := 728) (w := .selects (am_nm M_St_length).cls (am_nm M_St_length) (am_nm M_St_length)) (by decide +kernel) rfl)) rfl ht rfl (Nat.le_of_ble_eq_true rfl) (t_St_length ht) ?_
  by_cases c1 : x2 - x1 = nI (ss_len.getD t 0)
  · rw [if_pos c1] at h
    refine a_ict i_Se_isCalled_7 c1 ?_
    refine a_iconst i_Se_isCalled_12 ?_
    refine a_istore i_Se_isCalled_13 rfl ?_
    exact am_wk (t_Se_isCalled_15 ht 4000 h) ⟨Or.inr rfl, Or.inr rfl, Or.inl rfl, Or.inr rfl, Or.inr rfl, trivial⟩
  · rw [if_neg c1] at h
    refine a_icf i_Se_isCalled_7 c1 ?_
    refine a_iconst i_Se_isCalled_10 ?_
    exact am_ret_z ok_Se_isCalled rfl rfl (Or.inl rfl) (am_lf_i h)
theorem am_lf_t {r : Option Int32} {σ σ' : am_S} (h : some ((none : Option Int32), σ) = some (r, σ')) : r = none ∧ σ = σ' := by cases h; exact ⟨rfl, rfl⟩
theorem am_lf_s {v : Int32} {r : Option Int32} {σ σ' : am_S} (h : some (some v, σ) = some (r, σ')) : ∃ w : Int32, r = some w ∧ some (Value.int v) = some (.int w) ∧ σ = σ' := by cases h; exact ⟨v, rfl, rfl, rfl⟩
