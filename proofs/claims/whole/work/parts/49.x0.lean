/-! what the tables and the statement give at the law's start (mod_l.py) -/
theorem lt_mem {h : Nat} {w : Cond} (h1 : am_in lw_tbl h w = true) : w ∈ lw_tbl := List.mem_of_getElem? (of_decide_eq_true h1)
set_option maxRecDepth 100000 in
theorem x0_MAGIC {s : State} {args : Array Value} (hts : ∀ w ∈ lw_tbl, w.before args s = true) (hf : ∀ c ∈ flatC (Jvm.Cond.and given_1 narrow_1), c.before args s = true) : ∃ t : Nat, va_Z "FrameFinder" "MAGIC" "[I" (.ref t) (fun q => s.heap.size ≤ q) s s.heap ∧ va_T .int t 7 (fun j => .int (cs_c 65 j)) (fun q => s.heap.size ≤ q) s s.heap := by
  have hA : ∀ a : Nat, a < s.heap.size → ¬ (s.heap.size ≤ a) := fun a h => by omega
  obtain ⟨t, h1, h2⟩ := va_Tof (tm := (.static "FrameFinder" "MAGIC" "[I")) (ty := .int) (N := 7) (f := fun j => .int (cs_c 65 j)) (A := fun q => s.heap.size ≤ q) (by decide) (hf _ (by decide +kernel)) (va_eqt (hf _ (by decide +kernel))) (fun j hj => by
    match j, hj with
    | 0, _ => exact va_eqt (z := 127) (hf (.eq (.elem (.static "FrameFinder" "MAGIC" "[I") (.int 0)) (.int 127)) (by decide +kernel))
    | 1, _ => exact va_eqt (z := 69) (hf (.eq (.elem (.static "FrameFinder" "MAGIC" "[I") (.int 1)) (.int 69)) (by decide +kernel))
    | 2, _ => exact va_eqt (z := 76) (hf (.eq (.elem (.static "FrameFinder" "MAGIC" "[I") (.int 2)) (.int 76)) (by decide +kernel))
    | 3, _ => exact va_eqt (z := 70) (hf (.eq (.elem (.static "FrameFinder" "MAGIC" "[I") (.int 3)) (.int 70)) (by decide +kernel))
    | 4, _ => exact va_eqt (z := 2) (hf (.eq (.elem (.static "FrameFinder" "MAGIC" "[I") (.int 4)) (.int 2)) (by decide +kernel))
    | 5, _ => exact va_eqt (z := 1) (hf (.eq (.elem (.static "FrameFinder" "MAGIC" "[I") (.int 5)) (.int 1)) (by decide +kernel))
    | 6, _ => exact va_eqt (z := 1) (hf (.eq (.elem (.static "FrameFinder" "MAGIC" "[I") (.int 6)) (.int 1)) (by decide +kernel))
    | n + 7, hj => omega) hA
  exact ⟨t, va_Zref (hts _ (lt_mem (h := 677) (by decide +kernel))) (hts _ (lt_mem (h := 114) (by decide +kernel))) h1 hA, h2⟩
set_option maxRecDepth 100000 in
theorem x0_ATTRIBUTES {s : State} {args : Array Value} (hts : ∀ w ∈ lw_tbl, w.before args s = true) (hf : ∀ c ∈ flatC (Jvm.Cond.and given_1 narrow_1), c.before args s = true) : ∃ t : Nat, va_Z "FrameFinder" "ATTRIBUTES" "[I" (.ref t) (fun q => s.heap.size ≤ q) s s.heap ∧ va_T .int t 7 (fun j => .int (cs_c 66 j)) (fun q => s.heap.size ≤ q) s s.heap := by
  have hA : ∀ a : Nat, a < s.heap.size → ¬ (s.heap.size ≤ a) := fun a h => by omega
  obtain ⟨t, h1, h2⟩ := va_Tof (tm := (.static "FrameFinder" "ATTRIBUTES" "[I")) (ty := .int) (N := 7) (f := fun j => .int (cs_c 66 j)) (A := fun q => s.heap.size ≤ q) (by decide) (hf _ (by decide +kernel)) (va_eqt (hf _ (by decide +kernel))) (fun j hj => by
    match j, hj with
    | 0, _ => exact va_eqt (z := 3) (hf (.eq (.elem (.static "FrameFinder" "ATTRIBUTES" "[I") (.int 0)) (.int 3)) (by decide +kernel))
    | 1, _ => exact va_eqt (z := 17) (hf (.eq (.elem (.static "FrameFinder" "ATTRIBUTES" "[I") (.int 1)) (.int 17)) (by decide +kernel))
    | 2, _ => exact va_eqt (z := 18) (hf (.eq (.elem (.static "FrameFinder" "ATTRIBUTES" "[I") (.int 2)) (.int 18)) (by decide +kernel))
    | 3, _ => exact va_eqt (z := 85) (hf (.eq (.elem (.static "FrameFinder" "ATTRIBUTES" "[I") (.int 3)) (.int 85)) (by decide +kernel))
    | 4, _ => exact va_eqt (z := 49) (hf (.eq (.elem (.static "FrameFinder" "ATTRIBUTES" "[I") (.int 4)) (.int 49)) (by decide +kernel))
    | 5, _ => exact va_eqt (z := 88) (hf (.eq (.elem (.static "FrameFinder" "ATTRIBUTES" "[I") (.int 5)) (.int 88)) (by decide +kernel))
    | 6, _ => exact va_eqt (z := 89) (hf (.eq (.elem (.static "FrameFinder" "ATTRIBUTES" "[I") (.int 6)) (.int 89)) (by decide +kernel))
    | n + 7, hj => omega) hA
  exact ⟨t, va_Zref (hts _ (lt_mem (h := 880) (by decide +kernel))) (hts _ (lt_mem (h := 114) (by decide +kernel))) h1 hA, h2⟩
set_option maxRecDepth 100000 in
theorem x0_UNIT_ATTRIBUTES {s : State} {args : Array Value} (hts : ∀ w ∈ lw_tbl, w.before args s = true) (hf : ∀ c ∈ flatC (Jvm.Cond.and given_1 narrow_1), c.before args s = true) : ∃ t : Nat, va_Z "FrameFinder" "UNIT_ATTRIBUTES" "[I" (.ref t) (fun q => s.heap.size ≤ q) s s.heap ∧ va_T .int t 4 (fun j => .int (cs_c 67 j)) (fun q => s.heap.size ≤ q) s s.heap := by
  have hA : ∀ a : Nat, a < s.heap.size → ¬ (s.heap.size ≤ a) := fun a h => by omega
  obtain ⟨t, h1, h2⟩ := va_Tof (tm := (.static "FrameFinder" "UNIT_ATTRIBUTES" "[I")) (ty := .int) (N := 4) (f := fun j => .int (cs_c 67 j)) (A := fun q => s.heap.size ≤ q) (by decide) (hf _ (by decide +kernel)) (va_eqt (hf _ (by decide +kernel))) (fun j hj => by
    match j, hj with
    | 0, _ => exact va_eqt (z := 16) (hf (.eq (.elem (.static "FrameFinder" "UNIT_ATTRIBUTES" "[I") (.int 0)) (.int 16)) (by decide +kernel))
    | 1, _ => exact va_eqt (z := 114) (hf (.eq (.elem (.static "FrameFinder" "UNIT_ATTRIBUTES" "[I") (.int 1)) (.int 114)) (by decide +kernel))
    | 2, _ => exact va_eqt (z := 115) (hf (.eq (.elem (.static "FrameFinder" "UNIT_ATTRIBUTES" "[I") (.int 2)) (.int 115)) (by decide +kernel))
    | 3, _ => exact va_eqt (z := 116) (hf (.eq (.elem (.static "FrameFinder" "UNIT_ATTRIBUTES" "[I") (.int 3)) (.int 116)) (by decide +kernel))
    | n + 4, hj => omega) hA
  exact ⟨t, va_Zref (hts _ (lt_mem (h := 885) (by decide +kernel))) (hts _ (lt_mem (h := 114) (by decide +kernel))) h1 hA, h2⟩
theorem x0_ys {s : State} {args : Array Value} (hts : ∀ w ∈ lw_tbl, w.before args s = true) (hf : ∀ c ∈ flatC (Jvm.Cond.and given_1 narrow_1), c.before args s = true) {C n d : String} (hl : Cond.laysStatic C n d ∈ lw_tbl) (hi : Cond.initialized C ∈ lw_tbl) (hr : Cond.isRef (.static C n d) ∈ flatC (Jvm.Cond.and given_1 narrow_1)) : (∃ v : Value, v.isRef = true ∧ va_Z C n d v (fun q => s.heap.size ≤ q) s s.heap) ∧ am_Ls C n d (fun q => s.heap.size ≤ q) s s.heap := by
  have hA : ∀ a : Nat, a < s.heap.size → ¬ (s.heap.size ≤ a) := fun a h => by omega
  refine ⟨?_, am_Ls.of (hts _ hl) hA⟩
  rcases va_Zqof (hts _ hl) (hts _ hi) (hf _ hr) hA with h | ⟨t, h⟩
  · exact ⟨_, rfl, h⟩
  · exact ⟨_, rfl, h⟩
def ss_tm (i : Nat) : Term := .string "FrameFinder$Sections" (ss_idx.getD i 0)
set_option maxRecDepth 100000 in
theorem x0_b1 : ∀ i, i < 10 → (Cond.exactly (ss_tm i) "java/lang/String") ∈ flatC (Jvm.Cond.and given_1 narrow_1) ∧ (Cond.eq (.field (ss_tm i) "java/lang/String" "coder" "B") (.int 0)) ∈ flatC (Jvm.Cond.and given_1 narrow_1) ∧ (Cond.arrayOf (.field (ss_tm i) "java/lang/String" "value" "[B") .byte) ∈ flatC (Jvm.Cond.and given_1 narrow_1) ∧ (Cond.eq (.length (.field (ss_tm i) "java/lang/String" "value" "[B")) (.int (Int32.ofNat (ss_len.getD i 0)))) ∈ flatC (Jvm.Cond.and given_1 narrow_1) := by decide +kernel
set_option maxRecDepth 100000 in
theorem x0_b2 : ∀ i, i < 10 → ∀ j, j < ss_len.getD i 0 → (Cond.eq (.elem (.field (ss_tm i) "java/lang/String" "value" "[B") (.int (Int32.ofNat j))) (.int ((ss_byt.getD i []).getD j 0))) ∈ flatC (Jvm.Cond.and given_1 narrow_1) := by decide +kernel
set_option maxRecDepth 100000 in
theorem x0_b3 : ∀ i, i < 10 → ∀ j, j < 10 → i ≠ j → (Cond.not (Cond.eq (ss_tm i) (ss_tm j))) ∈ flatC (Jvm.Cond.and given_1 narrow_1) ∨ (Cond.not (Cond.eq (ss_tm j) (ss_tm i))) ∈ flatC (Jvm.Cond.and given_1 narrow_1) := by decide +kernel
set_option maxRecDepth 100000 in
theorem x0_b4 : ∀ i, i < 10 → Cond.stringRef "FrameFinder$Sections" (ss_idx.getD i 0) (ss_txt.getD i "") ∈ lw_tbl := by decide +kernel
theorem x0_b5 : ∀ i, i < 10 → ss_len.getD i 0 < 2 ^ 31 := by decide
theorem x0_str {s : State} {args : Array Value} (hts : ∀ w ∈ lw_tbl, w.before args s = true) (hf : ∀ c ∈ flatC (Jvm.Cond.and given_1 narrow_1), c.before args s = true) : ∃ aK aV : Nat → Nat, vk_S 10 ss_len ss_byt aK aV (fun q => s.heap.size ≤ q) s s.heap ∧ ∀ i, i < 10 → vk_R "FrameFinder$Sections" (ss_idx.getD i 0) (ss_txt.getD i "") (aK i) s := by
  have hA : ∀ a : Nat, a < s.heap.size → ¬ (s.heap.size ≤ a) := fun a h => by omega
  obtain ⟨aK, aV, h1, h2⟩ := vk_Sof (tm := ss_tm) (N := 10) (len := ss_len) (byt := ss_byt) (args := args) (A := fun q => s.heap.size ≤ q) x0_b5 (fun i hi => hf _ (x0_b1 i hi).1) (fun i hi => hf _ (x0_b1 i hi).2.1) (fun i hi => hf _ (x0_b1 i hi).2.2.1) (fun i hi => hf _ (x0_b1 i hi).2.2.2) (fun i hi j hj => hf _ (x0_b2 i hi j hj)) (fun i j hi hj hij => (x0_b3 i hi j hj hij).elim (fun h => Or.inl (hf _ h)) (fun h => Or.inr (hf _ h))) hA
  exact ⟨aK, aV, h1, fun i hi => vk_R.of (A := args) (hts _ (x0_b4 i hi)) (h2 i hi)⟩
theorem x0_at {q0 i : Nat} {u sa : Nat → Nat} (hi : i < 10) : (rl_c q0 u sa).getD (68 + i) 0 = sa (3 + i) ∧ (rl_c q0 u sa).getD (78 + i) 0 = sa (13 + i) := by
  match i, hi with
  | 0, _ => exact ⟨rfl, rfl⟩
  | 1, _ => exact ⟨rfl, rfl⟩
  | 2, _ => exact ⟨rfl, rfl⟩
  | 3, _ => exact ⟨rfl, rfl⟩
  | 4, _ => exact ⟨rfl, rfl⟩
  | 5, _ => exact ⟨rfl, rfl⟩
  | 6, _ => exact ⟨rfl, rfl⟩
  | 7, _ => exact ⟨rfl, rfl⟩
  | 8, _ => exact ⟨rfl, rfl⟩
  | 9, _ => exact ⟨rfl, rfl⟩
  | n + 10, h => omega
def x0_sa (s0 s1 s2 : Nat) (aK aV : Nat → Nat) (j : Nat) : Nat := if j = 0 then s0 else if j = 1 then s1 else if j = 2 then s2 else if j < 13 then aK (j - 3) else aV (j - 13)
theorem x0_sK {s0 s1 s2 i : Nat} {aK aV : Nat → Nat} (hi : i < 10) : x0_sa s0 s1 s2 aK aV (3 + i) = aK i ∧ x0_sa s0 s1 s2 aK aV (13 + i) = aV i := by
  unfold x0_sa
  constructor
  · rw [if_neg (by omega), if_neg (by omega), if_neg (by omega), if_pos (by omega)]
    congr 1
    omega
  · rw [if_neg (by omega), if_neg (by omega), if_neg (by omega), if_neg (by omega)]
    congr 1
    omega
set_option maxRecDepth 100000 in
theorem x0_c {s : State} {args : Array Value} {D : va_G} {ca : Nat → ClassId} (hts : ∀ w ∈ lw_tbl, w.before args s = true) (hg : (Jvm.Cond.and given_1 narrow_1).before args s = true) (hK : va_K D cl_c (am_tys ca) s) (hN : ∀ w ∈ nw_, va_Nw w s) : ∃ sa : Nat → Nat, ∀ (q0 : Nat) (u : Nat → Nat), am_X0 S_c D ca (fun k => (rl_c q0 u sa).getD k 0) (fun q => s.heap.size ≤ q) s s.heap := by
  have hf := flat_of_before _ hg
  obtain ⟨s0, a0, b0⟩ := x0_MAGIC hts hf
  obtain ⟨s1, a1, b1⟩ := x0_ATTRIBUTES hts hf
  obtain ⟨s2, a2, b2⟩ := x0_UNIT_ATTRIBUTES hts hf
  obtain ⟨aK, aV, hSS, hSR⟩ := x0_str hts hf
  refine ⟨x0_sa s0 s1 s2 aK aV, fun q0 u => ⟨hK, hN, ?_, ?_, ?_, ?_⟩⟩
  · intro q hq
    rcases List.mem_cons.mp hq with rfl | hq
    · exact a0
    rcases List.mem_cons.mp hq with rfl | hq
    · exact a1
    rcases List.mem_cons.mp hq with rfl | hq
    · exact a2
    cases hq
  · intro k h1 h2
    have h1 : 65 ≤ k := h1
    have h2 : k < 68 := h2
    obtain rfl | rfl | rfl : k = 65 ∨ k = 66 ∨ k = 67 := by omega
    · exact b0
    · exact b1
    · exact b2
  · intro q hq
    rcases List.mem_cons.mp hq with rfl | hq
    · exact x0_ys hts hf (lt_mem (h := 1133) (by decide +kernel)) (lt_mem (h := 131) (by decide +kernel)) (by decide +kernel)
    rcases List.mem_cons.mp hq with rfl | hq
    · exact x0_ys hts hf (lt_mem (h := 1135) (by decide +kernel)) (lt_mem (h := 131) (by decide +kernel)) (by decide +kernel)
    rcases List.mem_cons.mp hq with rfl | hq
    · exact x0_ys hts hf (lt_mem (h := 751) (by decide +kernel)) (lt_mem (h := 129) (by decide +kernel)) (by decide +kernel)
    cases hq
  · intro _
    refine ⟨⟨fun i hi => ?_, fun i j hi hj e9 => ?_⟩, fun i hi => ?_, va_Zof (hts _ (lt_mem (h := 735) (by decide +kernel))) (hts _ (lt_mem (h := 127) (by decide +kernel))) (va_eqt (hf _ (by decide +kernel))) (fun a h => by omega)⟩
    · have h9 := hSS.1 i hi
      dsimp only
      rw [(x0_at hi).1, (x0_at hi).2, (x0_sK hi).1, (x0_sK hi).2]
      exact h9
    · dsimp only at e9
      rw [(x0_at hi).1, (x0_at hj).1, (x0_sK hi).1, (x0_sK hj).1] at e9
      exact hSS.2 i j hi hj e9
    · dsimp only
      rw [(x0_at hi).1, (x0_sK hi).1]
      exact hSR i hi
set_option maxRecDepth 100000 in
theorem x0_m {s : State} {D : va_G} {ca : Nat → ClassId} {ρ : Nat → Nat} {A : Nat → Prop} (hK : va_K D cl_m (am_tys ca) s) (hN : ∀ w ∈ nw_, va_Nw w s) : am_X0 S_m D ca ρ A s s.heap := by
  refine ⟨hK, hN, ?_, ?_, ?_, ?_⟩
  · intro q hq
    cases hq
  · intro k h1 h2
    have h1 : 34 ≤ k := h1
    have h2 : k < 34 := h2
    omega
  · intro q hq
    cases hq
  · intro h
    exact absurd h (by decide +kernel)
