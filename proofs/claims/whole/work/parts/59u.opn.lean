/-! what is read -/
def OPN (σ τ : am_S) (N U : Nat) (fs A Z bnd wb : Nat → Nat) : Prop := (EV σ τ N U fs A Z) ∧ (RN σ τ (bnd N)) ∧ (∀ i, i < N → ∀ u, u < U → τ.2.1 19 i = nI u → DN σ τ N fs A Z i u) ∧ (BN σ τ bnd N) ∧ (τ.2.1 22 N = nI (bnd N)) ∧ (RW σ τ (wb U)) ∧ (∀ v, v < U → FU σ τ v) ∧ (WB σ τ wb U) ∧ (τ.2.1 28 U = nI (wb U)) ∧ (∃ n, SYM σ τ A Z n)
theorem OPN_ev {σ τ : am_S} {N U : Nat} {fs A Z bnd wb : Nat → Nat} (h : OPN σ τ N U fs A Z bnd wb) : EV σ τ N U fs A Z := h.1
theorem OPN_rn {σ τ : am_S} {N U : Nat} {fs A Z bnd wb : Nat → Nat} (h : OPN σ τ N U fs A Z bnd wb) : RN σ τ (bnd N) := h.2.1
theorem OPN_dn {σ τ : am_S} {N U : Nat} {fs A Z bnd wb : Nat → Nat} (h : OPN σ τ N U fs A Z bnd wb) : ∀ i, i < N → ∀ u, u < U → τ.2.1 19 i = nI u → DN σ τ N fs A Z i u := h.2.2.1
theorem OPN_bn {σ τ : am_S} {N U : Nat} {fs A Z bnd wb : Nat → Nat} (h : OPN σ τ N U fs A Z bnd wb) : BN σ τ bnd N := h.2.2.2.1
theorem OPN_bN {σ τ : am_S} {N U : Nat} {fs A Z bnd wb : Nat → Nat} (h : OPN σ τ N U fs A Z bnd wb) : τ.2.1 22 N = nI (bnd N) := h.2.2.2.2.1
theorem OPN_rw {σ τ : am_S} {N U : Nat} {fs A Z bnd wb : Nat → Nat} (h : OPN σ τ N U fs A Z bnd wb) : RW σ τ (wb U) := h.2.2.2.2.2.1
theorem OPN_fu {σ τ : am_S} {N U : Nat} {fs A Z bnd wb : Nat → Nat} (h : OPN σ τ N U fs A Z bnd wb) : ∀ v, v < U → FU σ τ v := h.2.2.2.2.2.2.1
theorem OPN_wb {σ τ : am_S} {N U : Nat} {fs A Z bnd wb : Nat → Nat} (h : OPN σ τ N U fs A Z bnd wb) : WB σ τ wb U := h.2.2.2.2.2.2.2.1
theorem OPN_wN {σ τ : am_S} {N U : Nat} {fs A Z bnd wb : Nat → Nat} (h : OPN σ τ N U fs A Z bnd wb) : τ.2.1 28 U = nI (wb U) := h.2.2.2.2.2.2.2.2.1
theorem OPN_sy {σ τ : am_S} {N U : Nat} {fs A Z bnd wb : Nat → Nat} (h : OPN σ τ N U fs A Z bnd wb) : ∃ n, SYM σ τ A Z n := h.2.2.2.2.2.2.2.2.2
/-! numbers without sign -/
theorem x63 {b : Nat} (h : b < 2 ^ 63) : 2 ^ 63 ^^^ b = 2 ^ 63 + b := by
  apply Nat.eq_of_testBit_eq
  intro i
  rw [Nat.testBit_xor, Nat.testBit_two_pow]
  by_cases c1 : i < 63
  · rw [Nat.testBit_two_pow_add_gt c1, decide_eq_false (by omega), Bool.false_xor]
  · by_cases c2 : i = 63
    · subst c2
      rw [Nat.testBit_two_pow_add_eq, decide_eq_true rfl, Bool.true_xor]
    · have h64 : 2 ^ 63 + b < 2 ^ 64 := by omega
      rw [decide_eq_false (by omega), Bool.false_xor, Nat.testBit_lt_two_pow (Nat.lt_of_lt_of_le h (Nat.pow_le_pow_right (by decide) (by omega))), Nat.testBit_lt_two_pow (Nat.lt_of_lt_of_le h64 (Nat.pow_le_pow_right (by decide) (by omega)))]
theorem lN_of (x : Int64) : ∃ a, a < 2 ^ 64 ∧ x = lN a := ⟨x.toBitVec.toNat, x.toBitVec.isLt, Int64.toBitVec_inj.mp (by rw [lN_bv, BitVec.ofNat_toNat, BitVec.setWidth_eq])⟩
theorem lN_mod {a : Nat} : lN (a + 2 ^ 64) = lN a := Int64.toBitVec_inj.mp (by rw [lN_bv, lN_bv]; apply BitVec.eq_of_toNat_eq; rw [BitVec.toNat_ofNat, BitVec.toNat_ofNat]; omega)
theorem xorA (x : Int64) : x ^^^ (-9223372036854775808) = x + (-9223372036854775808) := by
  obtain ⟨a, ha, rfl⟩ := lN_of x
  have em : (-9223372036854775808 : Int64) = lN (2 ^ 63) := by decide
  rw [em, lN_xor, lN_add]
  by_cases c : a < 2 ^ 63
  · rw [Nat.xor_comm, x63 c, Nat.add_comm]
  · obtain ⟨b, rfl⟩ : ∃ b, a = 2 ^ 63 + b := ⟨a - 2 ^ 63, by omega⟩
    have hb : b < 2 ^ 63 := by omega
    rw [← x63 hb, Nat.xor_comm (2 ^ 63) b, Nat.xor_assoc, Nat.xor_self, Nat.xor_zero, Nat.xor_comm b, x63 hb, show 2 ^ 63 + b + 2 ^ 63 = b + 2 ^ 64 by omega, lN_mod]
def ulB (x y : Int64) : Bool := decide (x + (-9223372036854775808) < y + (-9223372036854775808))
theorem ib_c {x y : Int64} {σ : am_S} : g_F_isBelow x y σ = some (if ulB x y then 1 else 0, σ) := by
  unfold g_F_isBelow g_F_isBelow_19 ulB
  rw [xorA, xorA]
  by_cases c : x + (-9223372036854775808) < y + (-9223372036854775808)
  · rw [if_pos ((cmp_lt _ _).mpr c), decide_eq_true c]; rfl
  · rw [if_neg (fun z => c ((cmp_lt _ _).mp z)), decide_eq_false c]; rfl
theorem il_m {x y : Int64} {τ : am_S} : g_Mo_isLess x y τ = some (if ulB x y then 1 else 0, τ) := by
  unfold g_Mo_isLess g_Mo_isLess_19 ulB
  by_cases c : x + (-9223372036854775808) < y + (-9223372036854775808)
  · rw [if_pos ((cmp_lt _ _).mpr c), decide_eq_true c]; rfl
  · rw [if_neg (fun z => c ((cmp_lt _ _).mp z)), decide_eq_false c]; rfl
def wiB (x a b : Int64) : Bool := !ulB x a && ulB x b
theorem iw_m {x a b : Int64} {τ : am_S} : g_Mo_isWithin x a b τ = some (if wiB x a b then 1 else 0, τ) := by
  unfold g_Mo_isWithin g_Mo_isWithin_21 g_Mo_isWithin_22 wiB
  rw [il_m, bd_t, il_m, bd_t]
  by_cases h1 : ulB x a = true
  · rw [if_pos h1, if_neg i10, h1]
    rfl
  · rw [if_neg h1, if_pos rfl, Bool.not_eq_true] at *
    rw [h1]
    by_cases h2 : ulB x b = true
    · rw [if_pos h2, if_neg i10, h2]
      rfl
    · rw [if_neg h2, if_pos rfl]
      rw [Bool.not_eq_true] at h2
      rw [h2]
      rfl
/-! ranges that hold an address -/
def rAny (P : Nat → Bool) : Nat → Nat → Bool
  | 0, _ => false
  | j + 1, k => P k || rAny P j (k + 1)
theorem rAny_eq {P Q : Nat → Bool} : ∀ j k, (∀ m, k ≤ m → m < k + j → P m = Q m) → rAny P j k = rAny Q j k
  | 0, _, _ => rfl
  | j + 1, k, h => by
    unfold rAny
    rw [h k (by omega) (by omega), rAny_eq j (k + 1) (fun m h1 h2 => h m (by omega) (by omega))]
def HO (τ : am_S) (x : Int64) (bnd : Nat → Nat) (e : Nat) : Bool := rAny (fun r => wiB x (τ.2.2 23 r) (τ.2.2 24 r)) (bnd (e + 1) - bnd e) (bnd e)
