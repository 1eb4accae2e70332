section LK
variable {p : Program} {l : Launch} {e : Env} {R : Room} {s : State} {m : MethodId} {args : Array Value} {below : List Frame} {meth : Method} {c : Code} {H : Heap} {locs : List Loc} {cells slots : Nat} {Q : State → Prop} {ls : Array Slot} {rest : List Value} {D Dm : va_G} {ca : Nat → ClassId} {ρx ρm : Nat → Nat} {ao : Nat} {A : Nat → Prop} {σx σm : am_S} {f : Nat → Int64} {b L k : Nat} {xs : Nat → Int32} {J' : am_S → am_S → Prop}
theorem lw_ld {cc : ByteArray} {pc : Nat} (hx : p.tables.exec = Jvm.exec) (hb : c.code = cc) (hX : va_X b L xs s s.heap) (hbl : b < s.heap.size) (hbA : ¬ A b) (hS : va_S A s.heap H locs) (h0 : ls[0]? = some (.val (.ref b))) (h4 : ls[4]? = some (.val (.int (nI (4 * k))))) (j : Nat) {cst : Int} (hc : Int32.ofInt cst = nI j) (hj : 4 * k + j < L) (hL : L ≤ 2048) (d0 : decode cc pc = .ok (.aload_n 0, 1)) (d1 : decode cc (pc + 1) = .ok (.iload 4, 2)) (d2 : decode cc (pc + 3) = .ok (.iconst cst, 1)) (d3 : decode cc (pc + 4) = .ok (.iadd, 1)) (d4 : decode cc (pc + 5) = .ok (.iaload, 1))
    (kk : W p l e R s m args below meth c H locs cells slots Q (F0 m (pc + 6) ls (.int (xs (4 * k + j)) :: rest))) : W p l e R s m args below meth c H locs cells slots Q (F0 m pc ls rest) := by
  refine lv_aload_n hx hb d0 rfl h0 ?_
  refine lv_iload hx hb d1 h4 ?_
  refine lv_iconst (v := nI j) hx hb d2 hc ?_
  refine lv_iadd hx hb d3 ?_
  rw [nI_add]
  refine va_sld hx hb hX hbl hbA hS (vp_in_nI hj (by omega)) d4 ?_
  rw [nI_clamp (by omega)]
  exact kk
def lw_w (a b : Int32) : Int64 := (a.toInt64 <<< ((32 : Int32).toInt64 &&& 63)) ||| (b.toInt64 &&& 4294967295)
theorem lw_ldl {pc : Nat} (E : lw_E D Dm ca ρx ρm A code p l s m args c) (hw : Cond.constantLong "FrameFinderLaw" 25 4294967295 ∈ tw_) (hX : va_X b L xs s s.heap) (hbl : b < s.heap.size) (hbA : ¬ A b) (hS : va_S A s.heap H locs) (h0 : ls[0]? = some (.val (.ref b))) (h4 : ls[4]? = some (.val (.int (nI (4 * k))))) (j : Nat) {cst cst2 : Int} (hc : Int32.ofInt cst = nI j) (hc2 : Int32.ofInt cst2 = nI (j + 1)) (hj : 4 * k + (j + 1) < L) (hL : L ≤ 2048)
    (d0 : decode code pc = .ok (.aload_n 0, 1)) (d1 : decode code (pc + 1) = .ok (.iload 4, 2)) (d2 : decode code (pc + 3) = .ok (.iconst cst, 1)) (d3 : decode code (pc + 4) = .ok (.iadd, 1)) (d4 : decode code (pc + 5) = .ok (.iaload, 1)) (d6 : decode code (pc + 6) = .ok (.i2l, 1)) (d7 : decode code (pc + 7) = .ok (.bipush 32, 2)) (d9 : decode code (pc + 9) = .ok (.lshl, 1))
    (g0 : decode code (pc + 10) = .ok (.aload_n 0, 1)) (g1 : decode code (pc + 11) = .ok (.iload 4, 2)) (g2 : decode code (pc + 13) = .ok (.iconst cst2, 1)) (g3 : decode code (pc + 14) = .ok (.iadd, 1)) (g4 : decode code (pc + 15) = .ok (.iaload, 1)) (g6 : decode code (pc + 16) = .ok (.i2l, 1)) (g7 : decode code (pc + 17) = .ok (.ldc2_w 25, 3)) (g8 : decode code (pc + 20) = .ok (.land, 1)) (g9 : decode code (pc + 21) = .ok (.lor, 1))
    (kk : W p l e R s m args below meth c H locs cells slots Q (F0 m (pc + 22) ls (.long (lw_w (xs (4 * k + j)) (xs (4 * k + (j + 1)))) :: rest))) : W p l e R s m args below meth c H locs cells slots Q (F0 m pc ls rest) := by
  refine lw_ld E.1 E.2.1 hX hbl hbA hS h0 h4 j hc (by omega) hL d0 d1 d2 d3 d4 ?_
  refine lv_i2l E.1 E.2.1 d6 rfl ?_
  refine lv_bipush (v := 32) E.1 E.2.1 d7 (by decide) ?_
  refine lv_lshl E.1 E.2.1 d9 rfl ?_
  refine lw_ld E.1 E.2.1 hX hbl hbA hS h0 h4 (j + 1) hc2 hj hL g0 g1 g2 g3 g4 ?_
  refine lv_i2l E.1 E.2.1 g6 rfl ?_
  refine lv_ldc2 (v := 4294967295) E.1 E.2.1 E.2.2.2.1 (E.2.2.2.2.1 _ hw) g7 ?_
  refine lv_land E.1 E.2.1 g8 ?_
  refine lv_lor E.1 E.2.1 g9 ?_
  exact kk
def lw_LV (b x0 m0 ao k : Nat) : List (Nat × Value) := [(0, .ref b), (1, .ref x0), (2, .ref m0), (3, .ref ao), (4, .int (nI (4 * k)))]
/-- a call that answers an int on both sides -/
def lw_b (Mx Mm : am_Me) (as : List Value) (σx σm : am_S) (J' : am_S → am_S → Prop) : Prop := ∃ Px Pm, am_Mt S_c Mx (.ref 0 :: as) σx Px ∧ am_Mt S_m Mm (.ref 0 :: as) σm Pm ∧ (∀ r σ', Px r σ' → ∃ v : Int32, r = some (.int v)) ∧ ∀ (v : Int32) σx' rm σm', Px (some (.int v)) σx' → Pm rm σm' → rm = some (.int v) ∧ J' σx' σm'
def lw_v (Mx Mm : am_Me) (σx σm : am_S) (J' : am_S → am_S → Prop) : Prop := ∃ Px Pm, am_Mt S_c Mx [.ref 0] σx Px ∧ am_Mt S_m Mm [.ref 0] σm Pm ∧ (∀ r σ', Px r σ' → r = none) ∧ ∀ σx' rm σm', Px none σx' → Pm rm σm' → rm = none ∧ J' σx' σm'
/-- a call that may throw X -/
def lw_t (Mx Mm : am_Me) (as : List Value) (X : String) (σx σm : am_S) (J' : am_S → am_S → Prop) : Prop := ∃ Px PxT Pm, am_MtT S_c Mx (.ref 0 :: as) σx Px PxT X ∧ am_Mt S_m Mm (.ref 0 :: as) σm Pm ∧ (∀ r σ', Px r σ' → ∃ v : Int32, r = some (.int v)) ∧ (∀ r σ', Pm r σ' → ∃ v : Int32, r = some (.int v)) ∧
  (∀ (v : Int32) σx' rm σm', Px (some (.int v)) σx' → Pm rm σm' → rm = some (.int v) ∧ σm'.1.1 0 1 = 0 ∧ J' σx' σm') ∧ ∀ σx' rm σm', PxT σx' → Pm rm σm' → σm'.1.1 0 1 = 1 ∧ J' σx' σm'
def lw_ops (J J' : am_S → am_S → Prop) : Prop := ∀ σx σm, J σx σm → (∀ n x, lw_b M_F_load M_Mo_load [.int n, .long x] σx σm J') ∧ lw_v M_F_clear M_Mo_clear σx σm J' ∧ lw_t M_F_open M_Mo_open [] "java/lang/IllegalArgumentException" σx σm J' ∧ lw_b M_F_fault M_Mo_fault [] σx σm J' ∧ (∀ a, lw_b M_F_count M_Mo_count [.int a] σx σm J') ∧ (∀ x, lw_t M_F_find M_Mo_find [.long x] "java/lang/IllegalStateException" σx σm J') ∧
  (∀ a b, lw_b M_F_name M_Mo_name [.int a, .int b] σx σm J') ∧ (∀ a b, lw_b M_F_file M_Mo_file [.int a, .int b] σx σm J') ∧ (∀ a, lw_b M_F_line M_Mo_line [.int a] σx σm J') ∧ J' σx σm
set_option maxHeartbeats 2000000 in
theorem lw_c_load (E : lw_E D Dm ca ρx ρm A code p l s m args c) (hX : va_X b L xs s s.heap) (hbl : b < s.heap.size) (hbA : ¬ A b) (hL : L ≤ 2048) (hk : 4 * k + 4 ≤ L) (I : lw_I D Dm ca ρx ρm ao A s σx σm f H locs) (hl : lv_has ls 7 (lw_LV b (ρx 0) (ρm 0) ao k)) (hce : cells + 1 ≤ R.cells) (hsl : slots + 6 ≤ R.slots) (hw : Cond.constantLong "FrameFinderLaw" 25 4294967295 ∈ tw_) (v1 : lw_V S_c M_F_load 27 2 R) (v2 : lw_V S_m M_Mo_load 31 2 R) (hB : ∀ (n : Int32) (x : Int64), lw_b M_F_load M_Mo_load [.int n, .long x] σx σm J') (kk : ∀ (σx' σm' : am_S) (f' : Nat → Int64) (H1 : Heap) (locs1 : List Loc) (ls1 : Array Slot), J' σx' σm' → lw_I D Dm ca ρx ρm ao A s σx' σm' f' H1 locs1 → lv_has ls1 7 (lw_LV b (ρx 0) (ρm 0) ao k) → W p l e R s m args below meth c H1 locs1 (cells + 1) (slots + 6) Q (F0 m 437 ls1 [])) : W p l e R s m args below meth c H locs cells slots Q (F0 m 88 ls []) := by
  obtain ⟨Px, Pm, h1, h2, h3, h4⟩ := hB (xs (4 * k + 1)) (lw_w (xs (4 * k + 2)) (xs (4 * k + (2 + 1))))
  refine lv_aload_n E.1 E.2.1 dl_88 rfl (lv_at hl 1 rfl) ?_
  refine lw_ld E.1 E.2.1 hX hbl hbA I.1.2.2 (lv_at hl 0 rfl) (lv_at hl 4 rfl) 1 (by decide) (by omega) hL dl_89 dl_90 dl_92 dl_93 dl_94 ?_
  refine lw_ldl E hw hX hbl hbA I.1.2.2 (lv_at hl 0 rfl) (lv_at hl 4 rfl) 2 (by decide) (by decide) (by omega) hL dl_95 dl_96 dl_98 dl_99 dl_100 dl_101 dl_102 dl_104 dl_105 dl_106 dl_108 dl_109 dl_110 dl_111 dl_112 dl_115 dl_116 ?_
  refine lw_cx (as := [.int (xs (4 * k + 1)), .long (lw_w (xs (4 * k + 2)) (xs (4 * k + (2 + 1))))]) (rest := []) E v1 ⟨rfl, rfl⟩ rfl h1 I (by omega) (by omega) hl.1 (by decide) dl_117 (fun r σ' H locs hp I => ?_)
  obtain ⟨v, rfl⟩ := h3 r σ' hp
  refine W.eq (g2 := F0 m 120 ls [.int v]) rfl ?_
  refine lv_aload_n E.1 E.2.1 dl_120 rfl (lv_at hl 2 rfl) ?_
  refine lw_ld E.1 E.2.1 hX hbl hbA I.1.2.2 (lv_at hl 0 rfl) (lv_at hl 4 rfl) 1 (by decide) (by omega) hL dl_121 dl_122 dl_124 dl_125 dl_126 ?_
  refine lw_ldl E hw hX hbl hbA I.1.2.2 (lv_at hl 0 rfl) (lv_at hl 4 rfl) 2 (by decide) (by decide) (by omega) hL dl_127 dl_128 dl_130 dl_131 dl_132 dl_133 dl_134 dl_136 dl_137 dl_138 dl_140 dl_141 dl_142 dl_143 dl_144 dl_147 dl_148 ?_
  refine lw_cm (as := [.int (xs (4 * k + 1)), .long (lw_w (xs (4 * k + 2)) (xs (4 * k + (2 + 1))))]) (rest := [.int v]) E v2 ⟨rfl, rfl⟩ rfl h2 I (by omega) (by omega) hl.1 (Nat.le_of_ble_eq_true rfl) dl_149 (fun rm σm' H locs hp2 I => ?_)
  obtain ⟨rfl, hJ⟩ := h4 v σ' rm σm' hp hp2
  refine W.eq (g2 := F0 m 152 ls [.int v, .int v]) rfl ?_
  refine lv_icmp_eq (tgt := 437) E.1 E.2.1 dl_152 rfl (fun _ => ?_) (fun h => absurd rfl h)
  exact W.widen (Nat.le_succ _) (Nat.le_add_right _ _) (kk σ' σm' f H locs ls hJ I hl)
set_option maxHeartbeats 2000000 in
theorem lw_c_fault (E : lw_E D Dm ca ρx ρm A code p l s m args c) (hX : va_X b L xs s s.heap) (hbl : b < s.heap.size) (hbA : ¬ A b) (hL : L ≤ 2048) (hk : 4 * k + 4 ≤ L) (I : lw_I D Dm ca ρx ρm ao A s σx σm f H locs) (hl : lv_has ls 7 (lw_LV b (ρx 0) (ρm 0) ao k)) (hce : cells + 1 ≤ R.cells) (hsl : slots + 6 ≤ R.slots) (v1 : lw_V S_c M_F_fault 45 0 R) (v2 : lw_V S_m M_Mo_fault 48 0 R) (hB : lw_b M_F_fault M_Mo_fault [] σx σm J') (kk : ∀ (σx' σm' : am_S) (f' : Nat → Int64) (H1 : Heap) (locs1 : List Loc) (ls1 : Array Slot), J' σx' σm' → lw_I D Dm ca ρx ρm ao A s σx' σm' f' H1 locs1 → lv_has ls1 7 (lw_LV b (ρx 0) (ρm 0) ao k) → W p l e R s m args below meth c H1 locs1 (cells + 1) (slots + 6) Q (F0 m 437 ls1 [])) : W p l e R s m args below meth c H locs cells slots Q (F0 m 212 ls []) := by
  obtain ⟨Px, Pm, h1, h2, h3, h4⟩ := hB 
  refine lv_aload_n E.1 E.2.1 dl_212 rfl (lv_at hl 1 rfl) ?_
  refine lw_cx (as := []) (rest := []) E v1 ⟨rfl, rfl⟩ rfl h1 I (by omega) (by omega) hl.1 (by decide) dl_213 (fun r σ' H locs hp I => ?_)
  obtain ⟨v, rfl⟩ := h3 r σ' hp
  refine W.eq (g2 := F0 m 216 ls [.int v]) rfl ?_
  refine lv_aload_n E.1 E.2.1 dl_216 rfl (lv_at hl 2 rfl) ?_
  refine lw_cm (as := []) (rest := [.int v]) E v2 ⟨rfl, rfl⟩ rfl h2 I (by omega) (by omega) hl.1 (Nat.le_of_ble_eq_true rfl) dl_217 (fun rm σm' H locs hp2 I => ?_)
  obtain ⟨rfl, hJ⟩ := h4 v σ' rm σm' hp hp2
  refine W.eq (g2 := F0 m 220 ls [.int v, .int v]) rfl ?_
  refine lv_icmp_eq (tgt := 437) E.1 E.2.1 dl_220 rfl (fun _ => ?_) (fun h => absurd rfl h)
  exact W.widen (Nat.le_succ _) (Nat.le_add_right _ _) (kk σ' σm' f H locs ls hJ I hl)
set_option maxHeartbeats 2000000 in
theorem lw_c_count (E : lw_E D Dm ca ρx ρm A code p l s m args c) (hX : va_X b L xs s s.heap) (hbl : b < s.heap.size) (hbA : ¬ A b) (hL : L ≤ 2048) (hk : 4 * k + 4 ≤ L) (I : lw_I D Dm ca ρx ρm ao A s σx σm f H locs) (hl : lv_has ls 7 (lw_LV b (ρx 0) (ρm 0) ao k)) (hce : cells + 1 ≤ R.cells) (hsl : slots + 6 ≤ R.slots) (v1 : lw_V S_c M_F_count 49 1 R) (v2 : lw_V S_m M_Mo_count 53 1 R) (hB : ∀ a : Int32, lw_b M_F_count M_Mo_count [.int a] σx σm J') (kk : ∀ (σx' σm' : am_S) (f' : Nat → Int64) (H1 : Heap) (locs1 : List Loc) (ls1 : Array Slot), J' σx' σm' → lw_I D Dm ca ρx ρm ao A s σx' σm' f' H1 locs1 → lv_has ls1 7 (lw_LV b (ρx 0) (ρm 0) ao k) → W p l e R s m args below meth c H1 locs1 (cells + 1) (slots + 6) Q (F0 m 437 ls1 [])) : W p l e R s m args below meth c H locs cells slots Q (F0 m 225 ls []) := by
  obtain ⟨Px, Pm, h1, h2, h3, h4⟩ := hB (xs (4 * k + 1))
  refine lv_aload_n E.1 E.2.1 dl_225 rfl (lv_at hl 1 rfl) ?_
  refine lw_ld E.1 E.2.1 hX hbl hbA I.1.2.2 (lv_at hl 0 rfl) (lv_at hl 4 rfl) 1 (by decide) (by omega) hL dl_226 dl_227 dl_229 dl_230 dl_231 ?_
  refine lw_cx (as := [.int (xs (4 * k + 1))]) (rest := []) E v1 ⟨rfl, rfl⟩ rfl h1 I (by omega) (by omega) hl.1 (by decide) dl_232 (fun r σ' H locs hp I => ?_)
  obtain ⟨v, rfl⟩ := h3 r σ' hp
  refine W.eq (g2 := F0 m 235 ls [.int v]) rfl ?_
  refine lv_aload_n E.1 E.2.1 dl_235 rfl (lv_at hl 2 rfl) ?_
  refine lw_ld E.1 E.2.1 hX hbl hbA I.1.2.2 (lv_at hl 0 rfl) (lv_at hl 4 rfl) 1 (by decide) (by omega) hL dl_236 dl_237 dl_239 dl_240 dl_241 ?_
  refine lw_cm (as := [.int (xs (4 * k + 1))]) (rest := [.int v]) E v2 ⟨rfl, rfl⟩ rfl h2 I (by omega) (by omega) hl.1 (Nat.le_of_ble_eq_true rfl) dl_242 (fun rm σm' H locs hp2 I => ?_)
  obtain ⟨rfl, hJ⟩ := h4 v σ' rm σm' hp hp2
  refine W.eq (g2 := F0 m 245 ls [.int v, .int v]) rfl ?_
  refine lv_icmp_eq (tgt := 437) E.1 E.2.1 dl_245 rfl (fun _ => ?_) (fun h => absurd rfl h)
  exact W.widen (Nat.le_succ _) (Nat.le_add_right _ _) (kk σ' σm' f H locs ls hJ I hl)
set_option maxHeartbeats 2000000 in
theorem lw_c_name (E : lw_E D Dm ca ρx ρm A code p l s m args c) (hX : va_X b L xs s s.heap) (hbl : b < s.heap.size) (hbA : ¬ A b) (hL : L ≤ 2048) (hk : 4 * k + 4 ≤ L) (I : lw_I D Dm ca ρx ρm ao A s σx σm f H locs) (hl : lv_has ls 7 (lw_LV b (ρx 0) (ρm 0) ao k)) (hce : cells + 1 ≤ R.cells) (hsl : slots + 6 ≤ R.slots) (v1 : lw_V S_c M_F_name 58 2 R) (v2 : lw_V S_m M_Mo_name 62 2 R) (hB : ∀ a b : Int32, lw_b M_F_name M_Mo_name [.int a, .int b] σx σm J') (kk : ∀ (σx' σm' : am_S) (f' : Nat → Int64) (H1 : Heap) (locs1 : List Loc) (ls1 : Array Slot), J' σx' σm' → lw_I D Dm ca ρx ρm ao A s σx' σm' f' H1 locs1 → lv_has ls1 7 (lw_LV b (ρx 0) (ρm 0) ao k) → W p l e R s m args below meth c H1 locs1 (cells + 1) (slots + 6) Q (F0 m 437 ls1 [])) : W p l e R s m args below meth c H locs cells slots Q (F0 m 338 ls []) := by
  obtain ⟨Px, Pm, h1, h2, h3, h4⟩ := hB (xs (4 * k + 1)) (xs (4 * k + 2))
  refine lv_aload_n E.1 E.2.1 dl_338 rfl (lv_at hl 1 rfl) ?_
  refine lw_ld E.1 E.2.1 hX hbl hbA I.1.2.2 (lv_at hl 0 rfl) (lv_at hl 4 rfl) 1 (by decide) (by omega) hL dl_339 dl_340 dl_342 dl_343 dl_344 ?_
  refine lw_ld E.1 E.2.1 hX hbl hbA I.1.2.2 (lv_at hl 0 rfl) (lv_at hl 4 rfl) 2 (by decide) (by omega) hL dl_345 dl_346 dl_348 dl_349 dl_350 ?_
  refine lw_cx (as := [.int (xs (4 * k + 1)), .int (xs (4 * k + 2))]) (rest := []) E v1 ⟨rfl, rfl⟩ rfl h1 I (by omega) (by omega) hl.1 (by decide) dl_351 (fun r σ' H locs hp I => ?_)
  obtain ⟨v, rfl⟩ := h3 r σ' hp
  refine W.eq (g2 := F0 m 354 ls [.int v]) rfl ?_
  refine lv_aload_n E.1 E.2.1 dl_354 rfl (lv_at hl 2 rfl) ?_
  refine lw_ld E.1 E.2.1 hX hbl hbA I.1.2.2 (lv_at hl 0 rfl) (lv_at hl 4 rfl) 1 (by decide) (by omega) hL dl_355 dl_356 dl_358 dl_359 dl_360 ?_
  refine lw_ld E.1 E.2.1 hX hbl hbA I.1.2.2 (lv_at hl 0 rfl) (lv_at hl 4 rfl) 2 (by decide) (by omega) hL dl_361 dl_362 dl_364 dl_365 dl_366 ?_
  refine lw_cm (as := [.int (xs (4 * k + 1)), .int (xs (4 * k + 2))]) (rest := [.int v]) E v2 ⟨rfl, rfl⟩ rfl h2 I (by omega) (by omega) hl.1 (Nat.le_of_ble_eq_true rfl) dl_367 (fun rm σm' H locs hp2 I => ?_)
  obtain ⟨rfl, hJ⟩ := h4 v σ' rm σm' hp hp2
  refine W.eq (g2 := F0 m 370 ls [.int v, .int v]) rfl ?_
  refine lv_icmp_eq (tgt := 437) E.1 E.2.1 dl_370 rfl (fun _ => ?_) (fun h => absurd rfl h)
  exact W.widen (Nat.le_succ _) (Nat.le_add_right _ _) (kk σ' σm' f H locs ls hJ I hl)
set_option maxHeartbeats 2000000 in
theorem lw_c_file (E : lw_E D Dm ca ρx ρm A code p l s m args c) (hX : va_X b L xs s s.heap) (hbl : b < s.heap.size) (hbA : ¬ A b) (hL : L ≤ 2048) (hk : 4 * k + 4 ≤ L) (I : lw_I D Dm ca ρx ρm ao A s σx σm f H locs) (hl : lv_has ls 7 (lw_LV b (ρx 0) (ρm 0) ao k)) (hce : cells + 1 ≤ R.cells) (hsl : slots + 6 ≤ R.slots) (v1 : lw_V S_c M_F_file 63 2 R) (v2 : lw_V S_m M_Mo_file 66 2 R) (hB : ∀ a b : Int32, lw_b M_F_file M_Mo_file [.int a, .int b] σx σm J') (kk : ∀ (σx' σm' : am_S) (f' : Nat → Int64) (H1 : Heap) (locs1 : List Loc) (ls1 : Array Slot), J' σx' σm' → lw_I D Dm ca ρx ρm ao A s σx' σm' f' H1 locs1 → lv_has ls1 7 (lw_LV b (ρx 0) (ρm 0) ao k) → W p l e R s m args below meth c H1 locs1 (cells + 1) (slots + 6) Q (F0 m 437 ls1 [])) : W p l e R s m args below meth c H locs cells slots Q (F0 m 375 ls []) := by
  obtain ⟨Px, Pm, h1, h2, h3, h4⟩ := hB (xs (4 * k + 1)) (xs (4 * k + 2))
  refine lv_aload_n E.1 E.2.1 dl_375 rfl (lv_at hl 1 rfl) ?_
  refine lw_ld E.1 E.2.1 hX hbl hbA I.1.2.2 (lv_at hl 0 rfl) (lv_at hl 4 rfl) 1 (by decide) (by omega) hL dl_376 dl_377 dl_379 dl_380 dl_381 ?_
  refine lw_ld E.1 E.2.1 hX hbl hbA I.1.2.2 (lv_at hl 0 rfl) (lv_at hl 4 rfl) 2 (by decide) (by omega) hL dl_382 dl_383 dl_385 dl_386 dl_387 ?_
  refine lw_cx (as := [.int (xs (4 * k + 1)), .int (xs (4 * k + 2))]) (rest := []) E v1 ⟨rfl, rfl⟩ rfl h1 I (by omega) (by omega) hl.1 (by decide) dl_388 (fun r σ' H locs hp I => ?_)
  obtain ⟨v, rfl⟩ := h3 r σ' hp
  refine W.eq (g2 := F0 m 391 ls [.int v]) rfl ?_
  refine lv_aload_n E.1 E.2.1 dl_391 rfl (lv_at hl 2 rfl) ?_
  refine lw_ld E.1 E.2.1 hX hbl hbA I.1.2.2 (lv_at hl 0 rfl) (lv_at hl 4 rfl) 1 (by decide) (by omega) hL dl_392 dl_393 dl_395 dl_396 dl_397 ?_
  refine lw_ld E.1 E.2.1 hX hbl hbA I.1.2.2 (lv_at hl 0 rfl) (lv_at hl 4 rfl) 2 (by decide) (by omega) hL dl_398 dl_399 dl_401 dl_402 dl_403 ?_
  refine lw_cm (as := [.int (xs (4 * k + 1)), .int (xs (4 * k + 2))]) (rest := [.int v]) E v2 ⟨rfl, rfl⟩ rfl h2 I (by omega) (by omega) hl.1 (Nat.le_of_ble_eq_true rfl) dl_404 (fun rm σm' H locs hp2 I => ?_)
  obtain ⟨rfl, hJ⟩ := h4 v σ' rm σm' hp hp2
  refine W.eq (g2 := F0 m 407 ls [.int v, .int v]) rfl ?_
  refine lv_icmp_eq (tgt := 437) E.1 E.2.1 dl_407 rfl (fun _ => ?_) (fun h => absurd rfl h)
  exact W.widen (Nat.le_succ _) (Nat.le_add_right _ _) (kk σ' σm' f H locs ls hJ I hl)
set_option maxHeartbeats 2000000 in
theorem lw_c_line (E : lw_E D Dm ca ρx ρm A code p l s m args c) (hX : va_X b L xs s s.heap) (hbl : b < s.heap.size) (hbA : ¬ A b) (hL : L ≤ 2048) (hk : 4 * k + 4 ≤ L) (I : lw_I D Dm ca ρx ρm ao A s σx σm f H locs) (hl : lv_has ls 7 (lw_LV b (ρx 0) (ρm 0) ao k)) (hce : cells + 1 ≤ R.cells) (hsl : slots + 6 ≤ R.slots) (v1 : lw_V S_c M_F_line 67 1 R) (v2 : lw_V S_m M_Mo_line 70 1 R) (hB : ∀ a : Int32, lw_b M_F_line M_Mo_line [.int a] σx σm J') (kk : ∀ (σx' σm' : am_S) (f' : Nat → Int64) (H1 : Heap) (locs1 : List Loc) (ls1 : Array Slot), J' σx' σm' → lw_I D Dm ca ρx ρm ao A s σx' σm' f' H1 locs1 → lv_has ls1 7 (lw_LV b (ρx 0) (ρm 0) ao k) → W p l e R s m args below meth c H1 locs1 (cells + 1) (slots + 6) Q (F0 m 437 ls1 [])) : W p l e R s m args below meth c H locs cells slots Q (F0 m 412 ls []) := by
  obtain ⟨Px, Pm, h1, h2, h3, h4⟩ := hB (xs (4 * k + 1))
  refine lv_aload_n E.1 E.2.1 dl_412 rfl (lv_at hl 1 rfl) ?_
  refine lw_ld E.1 E.2.1 hX hbl hbA I.1.2.2 (lv_at hl 0 rfl) (lv_at hl 4 rfl) 1 (by decide) (by omega) hL dl_413 dl_414 dl_416 dl_417 dl_418 ?_
  refine lw_cx (as := [.int (xs (4 * k + 1))]) (rest := []) E v1 ⟨rfl, rfl⟩ rfl h1 I (by omega) (by omega) hl.1 (by decide) dl_419 (fun r σ' H locs hp I => ?_)
  obtain ⟨v, rfl⟩ := h3 r σ' hp
  refine W.eq (g2 := F0 m 422 ls [.int v]) rfl ?_
  refine lv_aload_n E.1 E.2.1 dl_422 rfl (lv_at hl 2 rfl) ?_
  refine lw_ld E.1 E.2.1 hX hbl hbA I.1.2.2 (lv_at hl 0 rfl) (lv_at hl 4 rfl) 1 (by decide) (by omega) hL dl_423 dl_424 dl_426 dl_427 dl_428 ?_
  refine lw_cm (as := [.int (xs (4 * k + 1))]) (rest := [.int v]) E v2 ⟨rfl, rfl⟩ rfl h2 I (by omega) (by omega) hl.1 (Nat.le_of_ble_eq_true rfl) dl_429 (fun rm σm' H locs hp2 I => ?_)
  obtain ⟨rfl, hJ⟩ := h4 v σ' rm σm' hp hp2
  refine W.eq (g2 := F0 m 432 ls [.int v, .int v]) rfl ?_
  refine lv_icmp_eq (tgt := 437) E.1 E.2.1 dl_432 rfl (fun _ => ?_) (fun h => absurd rfl h)
  exact W.widen (Nat.le_succ _) (Nat.le_add_right _ _) (kk σ' σm' f H locs ls hJ I hl)
theorem lw_c_clear (E : lw_E D Dm ca ρx ρm A code p l s m args c) (hX : va_X b L xs s s.heap) (hbl : b < s.heap.size) (hbA : ¬ A b) (hL : L ≤ 2048) (hk : 4 * k + 4 ≤ L) (I : lw_I D Dm ca ρx ρm ao A s σx σm f H locs) (hl : lv_has ls 7 (lw_LV b (ρx 0) (ρm 0) ao k)) (hce : cells + 1 ≤ R.cells) (hsl : slots + 6 ≤ R.slots) (v1 : lw_V S_c M_F_clear 32 0 R) (v2 : lw_V S_m M_Mo_clear 35 0 R) (hB : lw_v M_F_clear M_Mo_clear σx σm J') (kk : ∀ (σx' σm' : am_S) (f' : Nat → Int64) (H1 : Heap) (locs1 : List Loc) (ls1 : Array Slot), J' σx' σm' → lw_I D Dm ca ρx ρm ao A s σx' σm' f' H1 locs1 → lv_has ls1 7 (lw_LV b (ρx 0) (ρm 0) ao k) → W p l e R s m args below meth c H1 locs1 (cells + 1) (slots + 6) Q (F0 m 437 ls1 [])) : W p l e R s m args below meth c H locs cells slots Q (F0 m 157 ls []) := by
  obtain ⟨Px, Pm, h1, h2, h3, h4⟩ := hB
  refine lv_aload_n E.1 E.2.1 dl_157 rfl (lv_at hl 1 rfl) ?_
  refine lw_cx (as := []) (rest := []) E v1 ⟨rfl, rfl⟩ rfl h1 I (by omega) (by omega) hl.1 (by decide) dl_158 (fun r σ' H locs hp I => ?_)
  have e9 := h3 r σ' hp
  subst e9
  refine W.eq (g2 := F0 m 161 ls []) rfl ?_
  refine lv_aload_n E.1 E.2.1 dl_161 rfl (lv_at hl 2 rfl) ?_
  refine lw_cm (as := []) (rest := []) E v2 ⟨rfl, rfl⟩ rfl h2 I (by omega) (by omega) hl.1 (by decide) dl_162 (fun rm σm' H locs hp2 I => ?_)
  obtain ⟨rfl, hJ⟩ := h4 σ' rm σm' hp hp2
  refine W.eq (g2 := F0 m 165 ls []) rfl ?_
  refine lv_goto (tgt := 437) E.1 E.2.1 dl_165 rfl ?_
  exact W.widen (Nat.le_succ _) (Nat.le_add_right _ _) (kk σ' σm' f H locs ls hJ I hl)
set_option maxHeartbeats 2000000 in
set_option maxRecDepth 100000 in
theorem lw_sopen {pc : Nat} (E : lw_E D Dm ca ρx ρm A code p l s m args c) {Px : Option Value → am_S → Prop} {PxT : am_S → Prop} (hM : am_MtT S_c M_F_open (.ref 0 :: []) σx Px PxT "java/lang/IllegalArgumentException") (hPx : ∀ r σ', Px r σ' → ∃ v : Int32, r = some (.int v)) (I : lw_I D Dm ca ρx ρm ao A s σx σm f H locs) (hR : lr_open.frames + 1 ≤ R.frames ∧ 8 + (3 + 11) + lr_open.locals ≤ R.locals) (hce : cells + 1 ≤ R.cells) (hsl : slots + 6 ≤ R.slots) (hsz : ls.size = 7) (hw8 : (rest.map Value.category).sum ≤ 8) (hd : decode code pc = .ok (.invokestatic 36, 3))
    (kk : ∀ (kv : Int32) (σ' : am_S) (f' : Nat → Int64) (H1 : Heap) (locs1 : List Loc), ((kv = 0 ∧ ∃ v : Int32, Px (some (.int v)) σ' ∧ f' 0 = v.toInt64) ∨ (kv = 1 ∧ PxT σ')) → lw_I D Dm ca ρx ρm ao A s σ' σm f' H1 locs1 → W p l e R s m args below meth c H1 locs1 (cells + 1) (slots + 6) Q (F0 m (pc + 3) ls (.int kv :: rest))) : W p l e R s m args below meth c H locs cells slots Q (F0 m pc ls (([.ref (ρx 0), .ref ao] : List Value).reverse ++ rest)) := by
  obtain ⟨hx, hb, hml, hown, htw, hl9, hX, -, hA⟩ := E
  have hAr := am_Ar_in (S := S_c) hA I.1.2.2.1 I.1.2.1
  have hAo : ∀ q, lw_Ao ρx ao H.size q → A q := fun q h => h.elim (hAr q) (fun e9 => by rw [e9]; exact I.2.2.2.2.2.2)
  have hcw : Cond.codeWith ⟨"FrameFinderLaw", "open", "(LFrameFinder;[J)I"⟩ method_3_code 3 (some .int) [(0, 8, 11, 13)] ∈ tw_ := (am_in_g (tl := lw_tbl) (h := 662) (w := .codeWith ⟨"FrameFinderLaw", "open", "(LFrameFinder;[J)I"⟩ method_3_code 3 (some .int) [(0, 8, 11, 13)]) (by decide +kernel) rfl)
  have hpre : PreS s H (lw_Po D ca ρx ao [.ref (ρx 0), .ref ao] σx f H.size) [.ref (ρx 0), .ref ao] := by
    constructor
    · intro a U g mk ⟨h1, h2, h3, h4, h5, h6, h7⟩
      exact ⟨h1, h2, h3, h4, h5, h6, am_X0_same sys_c (s := U) (U := U.calling g mk a) rfl h7⟩
    · intro U hU hW
      exact ⟨rfl, by rw [hU], by rw [hU]; exact I.1.1, I.1.2.1.weaken (fun _ _ _ _ => trivial), by rw [hU]; exact I.2.2.1, I.2.2.2.2.1, by rw [hU]; exact am_X0_warm sys_c hW (am_X0_heap I.1.2.2.2.1 hAo hX)⟩
  have hws : ∀ w ∈ lo_open, ∀ (a' : Array Value) (U : State), s.WarmedH U.vm → w.before a' U = true := by
    intro w hw a' U hW
    have hw : w ∈ tw_ := by
      rcases List.mem_cons.mp hw with e9 | e9
      · rw [e9]; exact hcw
      · exact e9
    exact word_at hW (good_of_word ((List.mem_filter.mp hw).2)) (htw w hw)
  have hrun := wt_runSW (g := F0 m pc ls (([.ref (ρx 0), .ref ao] : List Value).reverse ++ rest)) (cells := cells) (slots := slots) (locs := locs) (e := e) (below := below) (meth := meth) (rest := rest) (R := R) ⟨hx, hb, hml, hown, htw⟩ (lw_mopen l hl9 D ca ρx ao σx f H.size hM hPx) rfl rfl hR.1 hR.2 hws List.mem_cons_self (htw _ hcw) (htw _ (am_in_g (tl := lw_tbl) (h := 113) (w := .initialized "FrameFinderLaw") (by decide +kernel) rfl)) ⟨by decide +kernel, by decide +kernel⟩ (show _ = some 2 from by decide +kernel) (htw _ (am_in_g (tl := lw_tbl) (h := 660) (w := .methodLink "FrameFinderLaw" 36 ⟨"FrameFinderLaw", "open", "(LFrameFinder;[J)I"⟩) (by decide +kernel) rfl)) (htw _ (am_in_g (tl := lw_tbl) (h := 661) (w := .static ⟨"FrameFinderLaw", "open", "(LFrameFinder;[J)I"⟩) (by decide +kernel) rfl)) hpre rfl rfl hsz rfl (lv_room hw8) hd ⟨hce, hsl⟩
  intro T hT X
  obtain ⟨v, st₀, t, T', L1, h0, X', hL1, e1, e2, ⟨⟨kv, σ', f', q1, q2, q3, q4⟩, q5⟩, st⟩ := hrun T hT X
  have hv : v = some (.int kv) := Outcome.returned.inj q1
  subst hv
  obtain ⟨z1, z2⟩ := q5
  rw [h0] at z1 z2
  have hS' : va_S A s.heap T'.heap (locs ++ L1) := ⟨by rw [e1]; exact Nat.le_trans I.1.2.2.1 z1, fun q h1 h2 => by rw [e1, z2 q (Nat.lt_of_lt_of_le h1 I.1.2.2.1) (fun z => h2 (hAo q z))]; exact I.1.2.2.2.1 q h1 h2, fun q hq => (List.mem_append.mp hq).elim (I.1.2.2.2.2 q) (fun h => hAo _ (hL1 q h))⟩
  have hI : lw_I D Dm ca ρx ρm ao A s σ' σm f' T'.heap (locs ++ L1) := ⟨⟨by rw [e1]; exact q3, am_D_mv I.1.2.1, hS'⟩, lw_keepR I.2.1 hS' (fun j hj hlt => by
    rw [e1]
    refine z2 _ hlt ?_
    rintro ((⟨k9, hk9, e9⟩ | e9) | e9)
    · exact I.2.2.2.1 k9 hk9 j hj e9.symm
    · omega
    · exact I.2.2.2.2.2.1 j hj e9), by rw [e1]; exact q4, I.2.2.2.1, I.2.2.2.2.1, I.2.2.2.2.2.1, I.2.2.2.2.2.2⟩
  obtain ⟨t2, a1, b1⟩ := kk kv σ' f' T'.heap (locs ++ L1) q2 hI T' rfl X'
  exact ⟨t2, st t2 a1, b1⟩
set_option maxHeartbeats 2000000 in
theorem lw_c_open (E : lw_E D Dm ca ρx ρm A code p l s m args c) (hX : va_X b L xs s s.heap) (hbl : b < s.heap.size) (hbA : ¬ A b) (hL : L ≤ 2048) (hk : 4 * k + 4 ≤ L) (I : lw_I D Dm ca ρx ρm ao A s σx σm f H locs) (hl : lv_has ls 7 (lw_LV b (ρx 0) (ρm 0) ao k)) (hce : cells + 1 ≤ R.cells) (hsl : slots + 6 ≤ R.slots) (v2 : lw_V S_m M_Mo_open 41 0 R) (v3 : lw_V S_m M_Mo_thrown 42 0 R) (hR : lr_open.frames + 1 ≤ R.frames ∧ 8 + (3 + 11) + lr_open.locals ≤ R.locals) (hB : lw_t M_F_open M_Mo_open [] "java/lang/IllegalArgumentException" σx σm J') (kk : ∀ (σx' σm' : am_S) (f' : Nat → Int64) (H1 : Heap) (locs1 : List Loc) (ls1 : Array Slot), J' σx' σm' → lw_I D Dm ca ρx ρm ao A s σx' σm' f' H1 locs1 → lv_has ls1 7 (lw_LV b (ρx 0) (ρm 0) ao k) → W p l e R s m args below meth c H1 locs1 (cells + 1) (slots + 6) Q (F0 m 437 ls1 [])) : W p l e R s m args below meth c H locs cells slots Q (F0 m 168 ls []) := by
  obtain ⟨Px, PxT, Pm, h1, h2, h3, h3m, h4, h5⟩ := hB
  refine lv_aload_n E.1 E.2.1 dl_168 rfl (lv_at hl 1 rfl) ?_
  refine lv_aload_n E.1 E.2.1 dl_169 rfl (lv_at hl 3 rfl) ?_
  refine lw_sopen (rest := []) E h1 h3 I hR hce hsl hl.1 (by decide) dl_170 (fun kv σ' f' H locs hq I => ?_)
  refine lv_istore (lv' := ((5, .int kv) :: lw_LV b (ρx 0) (ρm 0) ao k)) E.1 E.2.1 dl_173 hl (by decide) rfl (fun ls hl => ?_)
  refine lv_aload_n E.1 E.2.1 dl_175 rfl (lv_at hl 3 rfl) ?_
  refine lw_cm (as := []) (rest := []) E v2 ⟨rfl, rfl⟩ rfl h2 I (by omega) (by omega) hl.1 (by decide) dl_176 (fun rm σm' H locs hp2 I => ?_)
  obtain ⟨w, rfl⟩ := h3m rm σm' hp2
  refine W.eq (g2 := F0 m 179 ls [.int w]) rfl ?_
  refine lv_istore (lv' := (6, .int w) :: ((5, .int kv) :: lw_LV b (ρx 0) (ρm 0) ao k)) E.1 E.2.1 dl_179 hl (by decide) rfl (fun ls hl => ?_)
  refine lv_aload_n E.1 E.2.1 dl_181 rfl (lv_at hl 4 rfl) ?_
  refine lw_cm (as := []) (rest := []) E v3 ⟨rfl, rfl⟩ rfl m_thrown I (by omega) (by omega) hl.1 (by decide) dl_182 (fun r9 σ9 H locs hp9 I => ?_)
  obtain ⟨e8, e9⟩ := hp9
  subst e8
  rw [e9] at I
  refine W.eq (g2 := F0 m 185 ls [.int (σm'.1.1 0 1)]) rfl ?_
  refine lv_iload E.1 E.2.1 dl_185 (lv_at hl 1 rfl) ?_
  rcases hq with ⟨rfl, v, hpx, hf⟩ | ⟨rfl, hpx⟩
  · obtain ⟨e7, ht, hJ⟩ := h4 v σ' _ σm' hpx hp2
    obtain rfl : w = v := Value.int.inj (Option.some.inj e7)
    refine lv_icmp_eq (tgt := 192) E.1 E.2.1 dl_187 rfl (fun _ => ?_) (fun h => absurd ht h)
    refine lv_iload E.1 E.2.1 dl_192 (lv_at hl 1 rfl) ?_
    refine lv_if_ne (tgt := 209) E.1 E.2.1 dl_194 rfl (fun h => absurd rfl h) (fun _ => ?_)
    refine lv_aload_n E.1 E.2.1 dl_197 rfl (lv_at hl 5 rfl) ?_
    refine lv_iconst (v := 0) E.1 E.2.1 dl_198 (by decide) ?_
    refine va_lald (n := 1) (f := f') (D := D) (cl := am_cl S_c) (ws := [(ao, .inl (ca 1, 1, .inr (.inl f')))]) E.1 E.2.1 E.2.2.2.2.2.2.1.1 (lw_one I.2.2.1) 0 1 rfl rfl (by unfold vp_in; decide) dl_199 ?_
    refine lv_iload E.1 E.2.1 dl_200 (lv_at hl 0 rfl) ?_
    refine lv_i2l (v := w.toInt64) E.1 E.2.1 dl_202 rfl ?_
    refine W.lcmp E.1 E.2.1 dl_203 ?_
    refine lv_if_eq (tgt := 209) E.1 E.2.1 dl_204 rfl (fun _ => ?_) (fun h => absurd (by show lg_cmp (f' 0) w.toInt64 = 0; rw [hf]; simp [lg_cmp]) h)
    refine lv_goto (tgt := 437) E.1 E.2.1 dl_209 rfl ?_
    exact kk σ' σm' f' H locs ls hJ I (lv_sub hl [2, 3, 4, 5, 6] rfl)
  · obtain ⟨ht, hJ⟩ := h5 σ' _ σm' hpx hp2
    refine lv_icmp_eq (tgt := 192) E.1 E.2.1 dl_187 rfl (fun _ => ?_) (fun h => absurd ht h)
    refine lv_iload E.1 E.2.1 dl_192 (lv_at hl 1 rfl) ?_
    refine lv_if_ne (tgt := 209) E.1 E.2.1 dl_194 rfl (fun _ => ?_) (fun h => absurd h (by decide))
    refine lv_goto (tgt := 437) E.1 E.2.1 dl_209 rfl ?_
    exact kk σ' σm' f' H locs ls hJ I (lv_sub hl [2, 3, 4, 5, 6] rfl)
set_option maxHeartbeats 2000000 in
set_option maxRecDepth 100000 in
theorem lw_sfind {pc : Nat} (E : lw_E D Dm ca ρx ρm A code p l s m args c) (x : Int64) {Px : Option Value → am_S → Prop} {PxT : am_S → Prop} (hM : am_MtT S_c M_F_find (.ref 0 :: [.long x]) σx Px PxT "java/lang/IllegalStateException") (hPx : ∀ r σ', Px r σ' → ∃ v : Int32, r = some (.int v)) (I : lw_I D Dm ca ρx ρm ao A s σx σm f H locs) (hR : lr_find.frames + 1 ≤ R.frames ∧ 8 + (5 + 11) + lr_find.locals ≤ R.locals) (hce : cells + 1 ≤ R.cells) (hsl : slots + 6 ≤ R.slots) (hsz : ls.size = 7) (hw8 : (rest.map Value.category).sum ≤ 8) (hd : decode code pc = .ok (.invokestatic 54, 3))
    (kk : ∀ (kv : Int32) (σ' : am_S) (f' : Nat → Int64) (H1 : Heap) (locs1 : List Loc), ((kv = 0 ∧ ∃ v : Int32, Px (some (.int v)) σ' ∧ f' 0 = v.toInt64) ∨ (kv = 1 ∧ PxT σ')) → lw_I D Dm ca ρx ρm ao A s σ' σm f' H1 locs1 → W p l e R s m args below meth c H1 locs1 (cells + 1) (slots + 6) Q (F0 m (pc + 3) ls (.int kv :: rest))) : W p l e R s m args below meth c H locs cells slots Q (F0 m pc ls (([.ref (ρx 0), .long x, .ref ao] : List Value).reverse ++ rest)) := by
  obtain ⟨hx, hb, hml, hown, htw, hl9, hX, -, hA⟩ := E
  have hAr := am_Ar_in (S := S_c) hA I.1.2.2.1 I.1.2.1
  have hAo : ∀ q, lw_Ao ρx ao H.size q → A q := fun q h => h.elim (hAr q) (fun e9 => by rw [e9]; exact I.2.2.2.2.2.2)
  have hcw : Cond.codeWith ⟨"FrameFinderLaw", "find", "(LFrameFinder;J[J)I"⟩ method_4_code 5 (some .int) [(0, 9, 12, 19)] ∈ tw_ := (am_in_g (tl := lw_tbl) (h := 1170) (w := .codeWith ⟨"FrameFinderLaw", "find", "(LFrameFinder;J[J)I"⟩ method_4_code 5 (some .int) [(0, 9, 12, 19)]) (by decide +kernel) rfl)
  have hpre : PreS s H (lw_Po D ca ρx ao [.ref (ρx 0), .long x, .ref ao] σx f H.size) [.ref (ρx 0), .long x, .ref ao] := by
    constructor
    · intro a U g mk ⟨h1, h2, h3, h4, h5, h6, h7⟩
      exact ⟨h1, h2, h3, h4, h5, h6, am_X0_same sys_c (s := U) (U := U.calling g mk a) rfl h7⟩
    · intro U hU hW
      exact ⟨rfl, by rw [hU], by rw [hU]; exact I.1.1, I.1.2.1.weaken (fun _ _ _ _ => trivial), by rw [hU]; exact I.2.2.1, I.2.2.2.2.1, by rw [hU]; exact am_X0_warm sys_c hW (am_X0_heap I.1.2.2.2.1 hAo hX)⟩
  have hws : ∀ w ∈ lo_find, ∀ (a' : Array Value) (U : State), s.WarmedH U.vm → w.before a' U = true := by
    intro w hw a' U hW
    have hw : w ∈ tw_ := by
      rcases List.mem_cons.mp hw with e9 | e9
      · rw [e9]; exact hcw
      · exact e9
    exact word_at hW (good_of_word ((List.mem_filter.mp hw).2)) (htw w hw)
  have hrun := wt_runSW (g := F0 m pc ls (([.ref (ρx 0), .long x, .ref ao] : List Value).reverse ++ rest)) (cells := cells) (slots := slots) (locs := locs) (e := e) (below := below) (meth := meth) (rest := rest) (R := R) ⟨hx, hb, hml, hown, htw⟩ (lw_mfind l hl9 D ca ρx ao σx f H.size x hM hPx) rfl rfl hR.1 hR.2 hws List.mem_cons_self (htw _ hcw) (htw _ (am_in_g (tl := lw_tbl) (h := 113) (w := .initialized "FrameFinderLaw") (by decide +kernel) rfl)) ⟨by decide +kernel, by decide +kernel⟩ (show _ = some 3 from by decide +kernel) (htw _ (am_in_g (tl := lw_tbl) (h := 1168) (w := .methodLink "FrameFinderLaw" 54 ⟨"FrameFinderLaw", "find", "(LFrameFinder;J[J)I"⟩) (by decide +kernel) rfl)) (htw _ (am_in_g (tl := lw_tbl) (h := 1169) (w := .static ⟨"FrameFinderLaw", "find", "(LFrameFinder;J[J)I"⟩) (by decide +kernel) rfl)) hpre rfl rfl hsz rfl (lv_room hw8) hd ⟨hce, hsl⟩
  intro T hT X
  obtain ⟨v, st₀, t, T', L1, h0, X', hL1, e1, e2, ⟨⟨kv, σ', f', q1, q2, q3, q4⟩, q5⟩, st⟩ := hrun T hT X
  have hv : v = some (.int kv) := Outcome.returned.inj q1
  subst hv
  obtain ⟨z1, z2⟩ := q5
  rw [h0] at z1 z2
  have hS' : va_S A s.heap T'.heap (locs ++ L1) := ⟨by rw [e1]; exact Nat.le_trans I.1.2.2.1 z1, fun q h1 h2 => by rw [e1, z2 q (Nat.lt_of_lt_of_le h1 I.1.2.2.1) (fun z => h2 (hAo q z))]; exact I.1.2.2.2.1 q h1 h2, fun q hq => (List.mem_append.mp hq).elim (I.1.2.2.2.2 q) (fun h => hAo _ (hL1 q h))⟩
  have hI : lw_I D Dm ca ρx ρm ao A s σ' σm f' T'.heap (locs ++ L1) := ⟨⟨by rw [e1]; exact q3, am_D_mv I.1.2.1, hS'⟩, lw_keepR I.2.1 hS' (fun j hj hlt => by
    rw [e1]
    refine z2 _ hlt ?_
    rintro ((⟨k9, hk9, e9⟩ | e9) | e9)
    · exact I.2.2.2.1 k9 hk9 j hj e9.symm
    · omega
    · exact I.2.2.2.2.2.1 j hj e9), by rw [e1]; exact q4, I.2.2.2.1, I.2.2.2.2.1, I.2.2.2.2.2.1, I.2.2.2.2.2.2⟩
  obtain ⟨t2, a1, b1⟩ := kk kv σ' f' T'.heap (locs ++ L1) q2 hI T' rfl X'
  exact ⟨t2, st t2 a1, b1⟩
set_option maxHeartbeats 2000000 in
theorem lw_c_find (E : lw_E D Dm ca ρx ρm A code p l s m args c) (hX : va_X b L xs s s.heap) (hbl : b < s.heap.size) (hbA : ¬ A b) (hL : L ≤ 2048) (hk : 4 * k + 4 ≤ L) (I : lw_I D Dm ca ρx ρm ao A s σx σm f H locs) (hl : lv_has ls 7 (lw_LV b (ρx 0) (ρm 0) ao k)) (hce : cells + 1 ≤ R.cells) (hsl : slots + 6 ≤ R.slots) (hw : Cond.constantLong "FrameFinderLaw" 25 4294967295 ∈ tw_) (v2 : lw_V S_m M_Mo_find 57 1 R) (v3 : lw_V S_m M_Mo_thrown 42 0 R) (hR : lr_find.frames + 1 ≤ R.frames ∧ 8 + (5 + 11) + lr_find.locals ≤ R.locals) (hB : ∀ x : Int64, lw_t M_F_find M_Mo_find [.long x] "java/lang/IllegalStateException" σx σm J') (kk : ∀ (σx' σm' : am_S) (f' : Nat → Int64) (H1 : Heap) (locs1 : List Loc) (ls1 : Array Slot), J' σx' σm' → lw_I D Dm ca ρx ρm ao A s σx' σm' f' H1 locs1 → lv_has ls1 7 (lw_LV b (ρx 0) (ρm 0) ao k) → W p l e R s m args below meth c H1 locs1 (cells + 1) (slots + 6) Q (F0 m 437 ls1 [])) : W p l e R s m args below meth c H locs cells slots Q (F0 m 250 ls []) := by
  obtain ⟨Px, PxT, Pm, h1, h2, h3, h3m, h4, h5⟩ := hB (lw_w (xs (4 * k + 1)) (xs (4 * k + (1 + 1))))
  refine lv_aload_n E.1 E.2.1 dl_250 rfl (lv_at hl 1 rfl) ?_
  refine lw_ldl E hw hX hbl hbA I.1.2.2 (lv_at hl 0 rfl) (lv_at hl 4 rfl) 1 (by decide) (by decide) (by omega) hL dl_251 dl_252 dl_254 dl_255 dl_256 dl_257 dl_258 dl_260 dl_261 dl_262 dl_264 dl_265 dl_266 dl_267 dl_268 dl_271 dl_272 ?_
  refine lv_aload_n E.1 E.2.1 dl_273 rfl (lv_at hl 3 rfl) ?_
  refine lw_sfind (rest := []) E (lw_w (xs (4 * k + 1)) (xs (4 * k + (1 + 1)))) h1 h3 I hR hce hsl hl.1 (by decide) dl_274 (fun kv σ' f' H locs hq I => ?_)
  refine lv_istore (lv' := ((5, .int kv) :: lw_LV b (ρx 0) (ρm 0) ao k)) E.1 E.2.1 dl_277 hl (by decide) rfl (fun ls hl => ?_)
  refine lv_aload_n E.1 E.2.1 dl_279 rfl (lv_at hl 3 rfl) ?_
  refine lw_ldl E hw hX hbl hbA I.1.2.2 (lv_at hl 1 rfl) (lv_at hl 5 rfl) 1 (by decide) (by decide) (by omega) hL dl_280 dl_281 dl_283 dl_284 dl_285 dl_286 dl_287 dl_289 dl_290 dl_291 dl_293 dl_294 dl_295 dl_296 dl_297 dl_300 dl_301 ?_
  refine lw_cm (as := [.long (lw_w (xs (4 * k + 1)) (xs (4 * k + (1 + 1))))]) (rest := []) E v2 ⟨rfl, rfl⟩ rfl h2 I (by omega) (by omega) hl.1 (by decide) dl_302 (fun rm σm' H locs hp2 I => ?_)
  obtain ⟨w, rfl⟩ := h3m rm σm' hp2
  refine W.eq (g2 := F0 m 305 ls [.int w]) rfl ?_
  refine lv_istore (lv' := (6, .int w) :: ((5, .int kv) :: lw_LV b (ρx 0) (ρm 0) ao k)) E.1 E.2.1 dl_305 hl (by decide) rfl (fun ls hl => ?_)
  refine lv_aload_n E.1 E.2.1 dl_307 rfl (lv_at hl 4 rfl) ?_
  refine lw_cm (as := []) (rest := []) E v3 ⟨rfl, rfl⟩ rfl m_thrown I (by omega) (by omega) hl.1 (by decide) dl_308 (fun r9 σ9 H locs hp9 I => ?_)
  obtain ⟨e8, e9⟩ := hp9
  subst e8
  rw [e9] at I
  refine W.eq (g2 := F0 m 311 ls [.int (σm'.1.1 0 1)]) rfl ?_
  refine lv_iload E.1 E.2.1 dl_311 (lv_at hl 1 rfl) ?_
  rcases hq with ⟨rfl, v, hpx, hf⟩ | ⟨rfl, hpx⟩
  · obtain ⟨e7, ht, hJ⟩ := h4 v σ' _ σm' hpx hp2
    obtain rfl : w = v := Value.int.inj (Option.some.inj e7)
    refine lv_icmp_eq (tgt := 318) E.1 E.2.1 dl_313 rfl (fun _ => ?_) (fun h => absurd ht h)
    refine lv_iload E.1 E.2.1 dl_318 (lv_at hl 1 rfl) ?_
    refine lv_if_ne (tgt := 335) E.1 E.2.1 dl_320 rfl (fun h => absurd rfl h) (fun _ => ?_)
    refine lv_aload_n E.1 E.2.1 dl_323 rfl (lv_at hl 5 rfl) ?_
    refine lv_iconst (v := 0) E.1 E.2.1 dl_324 (by decide) ?_
    refine va_lald (n := 1) (f := f') (D := D) (cl := am_cl S_c) (ws := [(ao, .inl (ca 1, 1, .inr (.inl f')))]) E.1 E.2.1 E.2.2.2.2.2.2.1.1 (lw_one I.2.2.1) 0 1 rfl rfl (by unfold vp_in; decide) dl_325 ?_
    refine lv_iload E.1 E.2.1 dl_326 (lv_at hl 0 rfl) ?_
    refine lv_i2l (v := w.toInt64) E.1 E.2.1 dl_328 rfl ?_
    refine W.lcmp E.1 E.2.1 dl_329 ?_
    refine lv_if_eq (tgt := 335) E.1 E.2.1 dl_330 rfl (fun _ => ?_) (fun h => absurd (by show lg_cmp (f' 0) w.toInt64 = 0; rw [hf]; simp [lg_cmp]) h)
    refine lv_goto (tgt := 437) E.1 E.2.1 dl_335 rfl ?_
    exact kk σ' σm' f' H locs ls hJ I (lv_sub hl [2, 3, 4, 5, 6] rfl)
  · obtain ⟨ht, hJ⟩ := h5 σ' _ σm' hpx hp2
    refine lv_icmp_eq (tgt := 318) E.1 E.2.1 dl_313 rfl (fun _ => ?_) (fun h => absurd ht h)
    refine lv_iload E.1 E.2.1 dl_318 (lv_at hl 1 rfl) ?_
    refine lv_if_ne (tgt := 335) E.1 E.2.1 dl_320 rfl (fun _ => ?_) (fun h => absurd h (by decide))
    refine lv_goto (tgt := 437) E.1 E.2.1 dl_335 rfl ?_
    exact kk σ' σm' f' H locs ls hJ I (lv_sub hl [2, 3, 4, 5, 6] rfl)
end LK
