/-! the law's walk (mod_l.py) -/
def lw_A (s : State) : Nat → Prop := fun q => s.heap.size ≤ q
set_option maxHeartbeats 4000000 in
set_option maxRecDepth 100000 in
/-- for any invariants that begin with the fresh objects -/
theorem lw_main {p : Program} {e : Env} {R : Room} {s : State} {m : MethodId} {below : List Frame} {meth : Method} {c : Code} {Q : State → Prop} (l : Launch) (hl9 : l.stackTraces = false) {b L : Nat} {xs : Nat → Int32} (hL : L ≤ 2048) (hx : p.tables.exec = Jvm.exec) (hb : c.code = code) (hml : c.maxLocals = 7) (hown : s.vm.findClass "FrameFinderLaw" = some m.cls) (hts : ∀ w ∈ lw_tbl, w.before #[Value.ref b] s = true) (hX : va_X b L xs s s.heap) (hbl : b < s.heap.size) (hg : (Jvm.Cond.and given_1 narrow_1).before #[Value.ref b] s = true)
    (hR : 13 ≤ R.frames ∧ 482 ≤ R.locals) (hc : 100 + L / 4 ≤ R.cells) (hs : 24231 + 6 * (L / 4) ≤ R.slots) (J : Nat → am_S → am_S → Prop) (h0 : J 0 z_c z_m) (hops : ∀ k, 4 * k + 4 ≤ L → lw_ops (J k) (J (k + 1)))
    (hend : ∀ (H1 : Heap) (locs1 : List Loc) (cells slots : Nat) (ls1 : Array Slot), cells ≤ 100 + L / 4 → slots ≤ 24231 + 6 * (L / 4) → va_S (fun q => s.heap.size ≤ q) s.heap H1 locs1 → W p l e R s m #[Value.ref b] below meth c H1 locs1 cells slots Q (F0 m 444 ls1 [.int 1])) :
    W p l e R s m #[Value.ref b] below meth c s.heap [] 0 0 Q (entryFrame m ([Value.ref b] : List Value).toArray 7) := by
  have htw : ∀ w ∈ tw_, w.before #[Value.ref b] s = true := fun w h => hts w (List.mem_filter.mp h).1
  have hN : ∀ w ∈ nw_, va_Nw w s := fun w h => va_Nw.of (am_nest_tab (List.mem_filter.mp h).2) (hts w (List.mem_filter.mp h).1)
  obtain ⟨⟨dC, dI⟩, hD⟩ := lw_known htw cok_c li_c
  obtain ⟨⟨mC, mI⟩, hDm⟩ := lw_known htw cok_m li_m
  obtain ⟨ca, hca⟩ := lw_arr htw la_0 la_1 la_2 la_3
  have hK : va_K (dC, dI) cl_c (am_tys ca) s := ⟨hD, hca⟩
  have hKm : va_K (mC, mI) cl_m (am_tys ca) s := ⟨hDm, hca⟩
  obtain ⟨sa, hX0⟩ := x0_c hts hg hK hN
  have hl := lv_entry ([Value.ref b]) (n := 7) (Nat.le_of_ble_eq_true rfl)
  rw [lg_entry_eq]
  generalize (lg_sl ([Value.ref b]) ++ List.replicate (7 - (lg_sl ([Value.ref b])).length) Slot.unset).toArray = ls at hl ⊢
  have hl : lv_has ls 7 [(0, .ref b)] := hl
  refine lw_begin hx hb hml hown htw hN hK hKm hl hR (by omega) (by omega) (fun ux um q0 q1 ao n1 n2 H locs ls hP1 hD1 hP2 hD2 hao hn1 hn2 hn12 hn2a hn0 hS hl => ?_)
  rw [ww_c q0 ux sa] at hP1 hD1 hn1
  rw [ww_m] at hP2 hD2 hn2
  have E : lw_E (dC, dI) (mC, mI) ca (fun k => (rl_c q0 ux sa).getD k 0) (fun k => (rl_m q1 um).getD k 0) (fun q => s.heap.size ≤ q) code p l s m #[Value.ref b] c := ⟨hx, hb, hml, hown, htw, hl9, hX0 q0 ux, x0_m hKm hN, fun q h => h⟩
  generalize hx' : (fun k => (rl_c q0 ux sa).getD k 0) = ρx at hP1 hD1 hn1 E
  generalize hm' : (fun k => (rl_m q1 um).getD k 0) = ρm at hP2 hD2 hn2 E
  have e0 : ρx 0 = q0 := by rw [← hx']; rfl
  have e1 : ρm 0 = q1 := by rw [← hm']; rfl
  have nx : ∀ k, k < 65 → ρx k < n1 := fun k hk => hn1 k _ (am_ws_at hk)
  have nm : ∀ k, k < 34 → n1 ≤ ρm k ∧ ρm k < n2 := fun k hk => hn2 k _ (am_ws_at hk)
  have I : lw_I (dC, dI) (mC, mI) ca ρx ρm ao (fun q => s.heap.size ≤ q) s z_c z_m (fun _ => 0) H locs := ⟨⟨hP1, hD1, hS⟩, ⟨hP2, hD2, hS⟩, hao, fun k hk j hj => by have := nx k hk; have := nm j hj; omega, fun k hk => by have := nx k hk; omega, fun j hj => by have := nm j hj; omega, by show s.heap.size ≤ ao; omega⟩
  refine lw_loop (c0 := 100) (s0 := 24231) E hX hbl (by show ¬ s.heap.size ≤ b; omega) hL hR hc hs J hops hend (L / 4) 0 z_c z_m (fun _ => 0) H locs ls (by omega) (Nat.zero_le _) h0 I ?_
  rw [e0, e1]
  exact lv_sub hl [4, 3, 2, 1, 0] rfl
