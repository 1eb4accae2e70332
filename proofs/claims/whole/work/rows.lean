section
/-! rows on bits, shifts and unsigned numbers, to paste: each family out of a closed proof of our own, whole with what it rests on; each by itself clean at Lean in its own claim (generation 39, form 5). Take a family whole -/
/-! ===== Int32 by its bits: bt x i ===== -/
def bt (x : Int32) (i : Nat) : Bool := x.toBitVec.getLsbD i
theorem b_ext {x y : Int32} (h : ∀ i, i < 32 → bt x i = bt y i) : x = y := Int32.toBitVec_inj.mp (BitVec.eq_of_getLsbD_eq (fun i hi => h i hi))
theorem b_or (x y : Int32) (i : Nat) : bt (x ||| y) i = (bt x i || bt y i) := by unfold bt; rw [Int32.toBitVec_or, BitVec.getLsbD_or]
theorem b_and (x y : Int32) (i : Nat) : bt (x &&& y) i = (bt x i && bt y i) := by unfold bt; rw [Int32.toBitVec_and, BitVec.getLsbD_and]
theorem b_xor (x y : Int32) (i : Nat) : bt (x ^^^ y) i = (bt x i ^^ bt y i) := by unfold bt; rw [Int32.toBitVec_xor, BitVec.getLsbD_xor]
theorem b_big {x : Int32} {i : Nat} (h : 32 ≤ i) : bt x i = false := BitVec.getLsbD_of_ge _ _ h
theorem b_255 (i : Nat) : bt 255 i = decide (i < 8) := by
  rcases Nat.lt_or_ge i 32 with h | h
  · exact (by decide +kernel : ∀ i, i < 32 → bt 255 i = decide (i < 8)) i h
  · rw [b_big h, decide_eq_false (by omega)]
theorem b_65535 (i : Nat) : bt 65535 i = decide (i < 16) := by
  rcases Nat.lt_or_ge i 32 with h | h
  · exact (by decide +kernel : ∀ i, i < 32 → bt 65535 i = decide (i < 16)) i h
  · rw [b_big h, decide_eq_false (by omega)]
theorem b_m1 : ∀ i, i < 32 → bt (-1) i = true := by decide +kernel
theorem b_0 (i : Nat) : bt 0 i = false := BitVec.getLsbD_zero
theorem s_l : ∀ n, n < 32 → ((nI n &&& 31).toBitVec.smod 32).toNat = n := by decide +kernel
theorem s_u : ∀ n, n < 32 → (((nI n).toUInt32 &&& Int32.toUInt32 31).toBitVec % 32).toNat = n := by decide +kernel
theorem b_shl (n : Nat) (hn : n < 32) (x : Int32) {i : Nat} (hi : i < 32) : bt (x <<< (nI n &&& 31)) i = (decide (n ≤ i) && bt x (i - n)) := by
  unfold bt
  rw [Int32.toBitVec_shiftLeft]
  show (x.toBitVec <<< ((nI n &&& 31).toBitVec.smod 32).toNat).getLsbD i = _
  rw [s_l n hn, BitVec.getLsbD_shiftLeft]
  rcases Nat.lt_or_ge i n with h | h
  · simp [h, Nat.not_le.mpr h]
  · simp [hi, h, Nat.not_lt.mpr h]
theorem b_ushr (n : Nat) (hn : n < 32) (x : Int32) (i : Nat) : bt ((x.toUInt32 >>> ((nI n).toUInt32 &&& Int32.toUInt32 31)).toInt32) i = bt x (n + i) := by
  show (x.toUInt32 >>> ((nI n).toUInt32 &&& Int32.toUInt32 31)).toBitVec.getLsbD i = x.toUInt32.toBitVec.getLsbD (n + i)
  rw [UInt32.toBitVec_shiftRight]
  show (x.toUInt32.toBitVec >>> (((nI n).toUInt32 &&& Int32.toUInt32 31).toBitVec % 32).toNat).getLsbD i = _
  rw [s_u n hn, BitVec.getLsbD_ushiftRight]
theorem b_sshr (n : Nat) (hn : n < 32) (x : Int32) {i : Nat} (hi : i < 32) : bt (x >>> (nI n &&& 31)) i = if n + i < 32 then bt x (n + i) else bt x 31 := by
  unfold bt
  rw [Int32.toBitVec_shiftRight]
  show (x.toBitVec.sshiftRight ((nI n &&& 31).toBitVec.smod 32).toNat).getLsbD i = _
  rw [s_l n hn, BitVec.getLsbD_sshiftRight, BitVec.msb_eq_getLsbD_last]
  simp [hi]
theorem b_shl8 (x : Int32) {i : Nat} (hi : i < 32) : bt (x <<< ((8 : Int32) &&& 31)) i = (decide (8 ≤ i) && bt x (i - 8)) := b_shl 8 (by omega) x hi
theorem b_shl16 (x : Int32) {i : Nat} (hi : i < 32) : bt (x <<< ((16 : Int32) &&& 31)) i = (decide (16 ≤ i) && bt x (i - 16)) := b_shl 16 (by omega) x hi
theorem b_shl24 (x : Int32) {i : Nat} (hi : i < 32) : bt (x <<< ((24 : Int32) &&& 31)) i = (decide (24 ≤ i) && bt x (i - 24)) := b_shl 24 (by omega) x hi
theorem b_sshr8 (x : Int32) {i : Nat} (hi : i < 32) : bt (x >>> ((8 : Int32) &&& 31)) i = if 8 + i < 32 then bt x (8 + i) else bt x 31 := b_sshr 8 (by omega) x hi
/-! ===== nI under and, xor, >>>, one bit, 65535 ===== -/
theorem nx_and (a b : Nat) : nI a &&& nI b = nI (a &&& b) := by
  apply Int32.toBitVec_inj.1
  show BitVec.ofNat 32 a &&& BitVec.ofNat 32 b = BitVec.ofNat 32 (a &&& b)
  apply BitVec.eq_of_getLsbD_eq
  intro i hi
  simp [hi]
theorem nx_xor (a b : Nat) : nI a ^^^ nI b = nI (a ^^^ b) := by
  apply Int32.toBitVec_inj.1
  show BitVec.ofNat 32 a ^^^ BitVec.ofNat 32 b = BitVec.ofNat 32 (a ^^^ b)
  apply BitVec.eq_of_getLsbD_eq
  intro i hi
  simp [hi]
theorem nx_cnt : ∀ j : Fin 32, (UInt32.ofNat j.val &&& Int32.toUInt32 31).toNat % 32 = j.val := by decide +kernel
theorem nx_ush {k j : Nat} (hk : k < 65536) (hj : j < 32) : ((nI k).toUInt32 >>> ((nI j).toUInt32 &&& Int32.toUInt32 31)).toInt32 = nI (k >>> j) := by
  have hs : k >>> j ≤ k := by
    rw [Nat.shiftRight_eq_div_pow]
    exact Nat.div_le_self _ _
  have e2 : UInt32.ofNat k >>> (UInt32.ofNat j &&& Int32.toUInt32 31) = UInt32.ofNat (k >>> j) := by
    apply UInt32.toNat_inj.1
    have h1 : (UInt32.ofNat k).toNat = k := Nat.mod_eq_of_lt (by omega)
    have h2 : (UInt32.ofNat (k >>> j)).toNat = k >>> j := Nat.mod_eq_of_lt (by omega)
    rw [UInt32.toNat_shiftRight, nx_cnt ⟨j, hj⟩, h1, h2]
  show (UInt32.ofNat k >>> (UInt32.ofNat j &&& Int32.toUInt32 31)).toInt32 = _
  rw [e2]
  rfl
theorem nx_bit {k j : Nat} (hk : k < 65536) (hj : j < 16) : (((nI k).toUInt32 >>> ((nI j).toUInt32 &&& Int32.toUInt32 31)).toInt32 &&& 1) = 0 ↔ k.testBit j = false := by
  rw [nx_ush hk (by omega)]
  show nI (k >>> j) &&& nI 1 = 0 ↔ _
  rw [nx_and, Nat.and_one_is_mod, ← nI_0, nI_eq (by omega) (by omega), Nat.testBit_eq_decide_div_mod_eq, Nat.shiftRight_eq_div_pow, decide_eq_false_iff_not]
  generalize k / 2 ^ j = z
  omega
theorem nx_mod (k : Nat) : nI k &&& 65535 = nI (k % 65536) := by
  show nI k &&& nI 65535 = _
  rw [nx_and, show (65535 : Nat) = 2 ^ 16 - 1 from rfl, Nat.and_two_pow_sub_one_eq_mod]
theorem nx_m16 {k : Nat} (h : k < 65536) : nI k &&& 65535 = nI k := by rw [nx_mod, Nat.mod_eq_of_lt h]
theorem nx_mask (x : Int32) : ∃ k, k < 65536 ∧ x &&& 65535 = nI k := by
  have e : x = nI x.toBitVec.toNat := by
    apply Int32.toBitVec_inj.1
    show x.toBitVec = BitVec.ofNat 32 x.toBitVec.toNat
    simp
  refine ⟨x.toBitVec.toNat % 65536, Nat.mod_lt _ (by omega), ?_⟩
  rw [← nx_mod, ← e]
/-! ===== Int32 as a set of bits: test, set ===== -/
def nf_M (m : Int32) : Nat := 4294967296 - m.toBitVec.toNat
theorem nf_sh : ∀ l, l < 32 → ((1 : Int32) <<< (nI l &&& 31)).toBitVec = BitVec.twoPow 32 l := by decide +kernel
theorem nf_sl : ∀ l, l < 32 → (((nI l).toUInt32 &&& Int32.toUInt32 31).toBitVec % 32).toNat = l := by decide +kernel
theorem nf_tp : ∀ l, l < 32 → BitVec.twoPow 32 l ≠ 0#32 := by decide +kernel
theorem nf_bit (m : Int32) (l : Nat) (hl : l < 32) : ((m.toUInt32 >>> ((nI l).toUInt32 &&& Int32.toUInt32 31)).toInt32 &&& 1) = 0 ↔ (m &&& ((1 : Int32) <<< (nI l &&& 31))) = 0 := by
  have e : ((m.toUInt32 >>> ((nI l).toUInt32 &&& Int32.toUInt32 31)).toInt32).toBitVec = m.toBitVec >>> l := by
    show m.toBitVec >>> (((nI l).toUInt32 &&& Int32.toUInt32 31).toBitVec % 32) = m.toBitVec >>> l
    rw [BitVec.ushiftRight_eq', nf_sl l hl]
  rw [← Int32.toBitVec_inj, ← Int32.toBitVec_inj, Int32.toBitVec_and, Int32.toBitVec_and, nf_sh l hl, e, BitVec.and_twoPow]
  show (m.toBitVec >>> l &&& 1#32) = 0#32 ↔ _ = 0#32
  rw [BitVec.and_one_eq_setWidth_ofBool_getLsbD, BitVec.getLsbD_ushiftRight, Nat.add_zero]
  cases hb : m.toBitVec.getLsbD l
  · exact ⟨fun _ => by simp, fun _ => by decide⟩
  · exact ⟨fun z => absurd z (by decide), fun z => absurd ((if_pos rfl).symm.trans z) (nf_tp l hl)⟩
theorem nf_gr (m k : Int32) (h : m &&& k = 0) (hk : k ≠ 0) : nf_M (m ||| k) < nf_M m := by
  have hm := m.toBitVec.isLt
  have hm' := (m ||| k).toBitVec.isLt
  have h1 : m.toBitVec.toNat ≤ (m ||| k).toBitVec.toNat := by
    rw [Int32.toBitVec_or, BitVec.toNat_or]
    exact Nat.left_le_or
  have h2 : m.toBitVec.toNat ≠ (m ||| k).toBitVec.toNat := by
    intro e
    have e2 : m = m ||| k := Int32.toBitVec_inj.mp (BitVec.eq_of_toNat_eq e)
    apply hk
    apply Int32.toBitVec_inj.mp
    show k.toBitVec = 0#32
    apply BitVec.eq_of_getLsbD_eq
    intro i hi
    have a : m.toBitVec.getLsbD i = (m.toBitVec.getLsbD i || k.toBitVec.getLsbD i) := by rw [← BitVec.getLsbD_or, ← Int32.toBitVec_or, ← e2]
    have b : (m.toBitVec.getLsbD i && k.toBitVec.getLsbD i) = false := by
      rw [← BitVec.getLsbD_and, ← Int32.toBitVec_and, h]
      exact BitVec.getLsbD_zero
    rw [BitVec.getLsbD_zero]
    revert a b
    cases m.toBitVec.getLsbD i <;> cases k.toBitVec.getLsbD i <;> simp
  unfold nf_M
  omega
/-! ===== a byte read unsigned ===== -/
theorem bp_b (x : Int32) : x.toInt8.toInt32 &&& 255 = x &&& 255 := by
  apply Int32.toBitVec_inj.mp
  rw [Int32.toBitVec_and, Int32.toBitVec_and, Int8.toBitVec_toInt32, Int32.toBitVec_toInt8]
  apply BitVec.eq_of_getLsbD_eq
  intro i hi
  rw [BitVec.getLsbD_and, BitVec.getLsbD_and]
  have hm : ∀ i < 32, 8 ≤ i → (255 : Int32).toBitVec.getLsbD i = false := by decide
  rcases Nat.lt_or_ge i 8 with z | z
  · rw [BitVec.getLsbD_signExtend, BitVec.getLsbD_signExtend, if_pos z, if_pos hi]
    simp only [z, hi, decide_true, Bool.true_and]
  · rw [hm i hi z]; simp
/-! ===== the char cast and 65535 ===== -/
/-! ===== Int64 as a set of bits: test, set, clear ===== -/
theorem ts_nf {x : Bool} (h : ¬ x = false) : x = true := by cases x <;> first | rfl | exact absurd rfl h
theorem ts_nt {x : Bool} (h : ¬ x = true) : x = false := by cases x <;> first | rfl | exact absurd rfl h
theorem ts_bit {w : Int64} {s : UInt64} {j : Nat} (hj : j < 64) (hs : s.toNat = j) : ((w.toUInt64 >>> s).toInt64 &&& 1) = 0 ↔ w.toBitVec.getLsbD j = false := by
  have e : (w.toUInt64 >>> s).toInt64.toBitVec = w.toBitVec >>> j := by
    apply BitVec.eq_of_toNat_eq
    show (w.toUInt64 >>> s).toNat = _
    rw [UInt64.toNat_shiftRight, hs, Nat.mod_eq_of_lt hj, BitVec.toNat_ushiftRight]
    rfl
  rw [← Int64.toBitVec_inj, Int64.toBitVec_and, e]
  show w.toBitVec >>> j &&& 1#64 = 0#64 ↔ _
  constructor
  · intro h
    have t := congrArg (fun x => x.getLsbD 0) h
    simpa using t
  · intro h
    apply BitVec.eq_of_getLsbD_eq
    intro i hi
    cases i with
    | zero => simp [h]
    | succ i => simp
theorem ts_or {w m : Int64} {j : Nat} (hj : j < 64) (hm : m.toBitVec = BitVec.twoPow 64 j) : (w ||| m) = w ↔ w.toBitVec.getLsbD j = true := by
  rw [← Int64.toBitVec_inj, Int64.toBitVec_or, hm]
  constructor
  · intro h
    have t := congrArg (fun x => x.getLsbD j) h
    simp only [BitVec.getLsbD_or, BitVec.getLsbD_twoPow] at t
    simpa [hj] using t.symm
  · intro h
    apply BitVec.eq_of_getLsbD_eq
    intro i hi
    rw [BitVec.getLsbD_or, BitVec.getLsbD_twoPow]
    by_cases e : j = i
    · subst e; rw [h, Bool.true_or]
    · simp [e]
theorem ts_and {w m : Int64} {j : Nat} (hj : j < 64) (hm : m.toBitVec = BitVec.twoPow 64 j) : (w &&& (m ^^^ (-1))) = w ↔ w.toBitVec.getLsbD j = false := by
  have ha : (-1 : Int64).toBitVec = BitVec.allOnes 64 := by decide
  rw [← Int64.toBitVec_inj, Int64.toBitVec_and, Int64.toBitVec_xor, hm, ha]
  constructor
  · intro h
    have t := congrArg (fun x => x.getLsbD j) h
    simp only [BitVec.getLsbD_and, BitVec.getLsbD_xor, BitVec.getLsbD_twoPow, BitVec.getLsbD_allOnes] at t
    simpa [hj] using t.symm
  · intro h
    apply BitVec.eq_of_getLsbD_eq
    intro i hi
    rw [BitVec.getLsbD_and, BitVec.getLsbD_xor, BitVec.getLsbD_twoPow, BitVec.getLsbD_allOnes]
    by_cases e : j = i
    · subst e; rw [h, Bool.false_and]
    · simp [e, hi]
/-! ===== lN n to 2^64: shifts, and, or, masks, one bit ===== -/
theorem wb_tb (n : Nat) : (lN n).toBitVec = BitVec.ofNat 64 n := rfl
theorem wb_inj {a b : Int64} (h : a.toBitVec = b.toBitVec) : a = b := Int64.toBitVec_inj.mp h
theorem wb_tn {n : Nat} (h : n < 2 ^ 64) : (lN n).toBitVec.toNat = n := by rw [wb_tb, BitVec.toNat_ofNat, Nat.mod_eq_of_lt h]
theorem wb_of (x : Int64) : ∃ n, n < 2 ^ 64 ∧ x = lN n := ⟨x.toBitVec.toNat, x.toBitVec.isLt, wb_inj (by rw [wb_tb]; simp)⟩
theorem wb_of32 (x : Int32) : ∃ n, n < 2 ^ 32 ∧ x = nI n := ⟨x.toBitVec.toNat, x.toBitVec.isLt, Int32.toBitVec_inj.mp (by show _ = BitVec.ofNat 32 _; simp)⟩
theorem wb_c : ∀ k, k < 64 → ((nI k).toInt64 &&& 63) = lN k := by decide +kernel
theorem wb_cu : ∀ k, k < 64 → ((nI k).toInt64.toUInt64 &&& Int64.toUInt64 63) = UInt64.ofNat k := by decide +kernel
theorem wb_sm : ∀ k, k < 64 → (BitVec.ofNat 64 k).smod 64 = BitVec.ofNat 64 k := by decide +kernel
theorem wb_pw {a b : Nat} (h : a ≤ b) : 2 ^ b = 2 ^ a * 2 ^ (b - a) := by rw [← Nat.pow_add]; congr 1; omega
theorem wb_lt2 {a b : Nat} (h : a < b) : 2 ^ a < 2 ^ b := Nat.pow_lt_pow_right (by decide) h
theorem wb_mod (n : Nat) : lN n = lN (n % 2 ^ 64) := wb_inj (by rw [wb_tb, wb_tb]; apply BitVec.eq_of_toNat_eq; rw [BitVec.toNat_ofNat, BitVec.toNat_ofNat, Nat.mod_mod])
theorem wb_shr {n k : Nat} (hn : n < 2 ^ 64) (hk : k < 64) : ((lN n).toUInt64 >>> ((nI k).toInt64.toUInt64 &&& Int64.toUInt64 63)).toInt64 = lN (n / 2 ^ k) := by
  rw [wb_cu k hk]
  apply wb_inj
  apply BitVec.eq_of_toNat_eq
  show ((lN n).toUInt64 >>> UInt64.ofNat k).toNat = (BitVec.ofNat 64 _).toNat
  have h1 : (UInt64.ofNat k).toNat = k := by
    show (BitVec.ofNat 64 k).toNat = k
    rw [BitVec.toNat_ofNat, Nat.mod_eq_of_lt (by omega)]
  have h2 : (lN n).toUInt64.toNat = n := wb_tn hn
  rw [UInt64.toNat_shiftRight, h1, h2, Nat.mod_eq_of_lt hk, Nat.shiftRight_eq_div_pow, BitVec.toNat_ofNat, Nat.mod_eq_of_lt (Nat.lt_of_le_of_lt (Nat.div_le_self _ _) hn)]
theorem wb_shl (n : Nat) {k : Nat} (hk : k < 64) : lN n <<< ((nI k).toInt64 &&& 63) = lN (n * 2 ^ k) := by
  rw [wb_c k hk]
  apply wb_inj
  rw [Int64.toBitVec_shiftLeft, wb_tb, wb_tb, wb_tb, wb_sm k hk]
  apply BitVec.eq_of_toNat_eq
  rw [BitVec.shiftLeft_eq', BitVec.toNat_shiftLeft, BitVec.toNat_ofNat, BitVec.toNat_ofNat, BitVec.toNat_ofNat, Nat.mod_eq_of_lt (show k < 2 ^ 64 by omega), Nat.shiftLeft_eq, Nat.mul_mod, Nat.mod_mod, ← Nat.mul_mod]
theorem wb_and {a b : Nat} (ha : a < 2 ^ 64) (hb : b < 2 ^ 64) : lN a &&& lN b = lN (a &&& b) := by
  apply wb_inj
  rw [Int64.toBitVec_and, wb_tb, wb_tb, wb_tb]
  apply BitVec.eq_of_toNat_eq
  rw [BitVec.toNat_and, BitVec.toNat_ofNat, BitVec.toNat_ofNat, BitVec.toNat_ofNat, Nat.mod_eq_of_lt ha, Nat.mod_eq_of_lt hb, Nat.mod_eq_of_lt (Nat.and_lt_two_pow _ hb)]
theorem wb_or {a b : Nat} (ha : a < 2 ^ 64) (hb : b < 2 ^ 64) : lN a ||| lN b = lN (a ||| b) := by
  apply wb_inj
  rw [Int64.toBitVec_or, wb_tb, wb_tb, wb_tb]
  apply BitVec.eq_of_toNat_eq
  rw [BitVec.toNat_or, BitVec.toNat_ofNat, BitVec.toNat_ofNat, BitVec.toNat_ofNat, Nat.mod_eq_of_lt ha, Nat.mod_eq_of_lt hb, Nat.mod_eq_of_lt (Nat.or_lt_two_pow ha hb)]
theorem wb_mask {n k : Nat} (hn : n < 2 ^ 64) (hk : k < 64) : lN n &&& lN (2 ^ k - 1) = lN (n % 2 ^ k) := by
  rw [wb_and hn (by have := wb_lt2 hk; omega), Nat.and_two_pow_sub_one_eq_mod]
theorem wb_a1 {n : Nat} (hn : n < 2 ^ 64) : lN n &&& 1 = lN (n % 2) := wb_mask (k := 1) hn (by decide)
theorem wb_bit {n k : Nat} (hn : n < 2 ^ 64) (hk : k < 64) : ((lN n).toUInt64 >>> ((nI k).toInt64.toUInt64 &&& Int64.toUInt64 63)).toInt64 &&& 1 = lN (n / 2 ^ k % 2) := by
  rw [wb_shr hn hk, wb_a1 (Nat.lt_of_le_of_lt (Nat.div_le_self _ _) hn)]
theorem wb_xor {q k : Nat} (hk : k < 63) (h : 2 ^ k ≤ q) (h2 : q < 2 ^ (k + 1)) : lN q ^^^ lN (2 ^ k) = lN (q - 2 ^ k) := by
  obtain ⟨r, rfl⟩ : ∃ r, q = 2 ^ k + r := ⟨q - 2 ^ k, by omega⟩
  have hr : r < 2 ^ k := by rw [Nat.pow_succ] at h2; omega
  have hx : (2 ^ k + r) ^^^ 2 ^ k = r := by
    apply Nat.eq_of_testBit_eq
    intro i
    rw [Nat.testBit_xor, Nat.testBit_two_pow]
    rcases Nat.lt_trichotomy i k with h | h | h
    · rw [Nat.testBit_two_pow_add_gt h]
      simp [show ¬ k = i by omega]
    · subst h
      rw [Nat.testBit_two_pow_add_eq]
      simp
    · have a1 : 2 ^ (k + 1) ≤ 2 ^ i := Nat.pow_le_pow_right (by decide) h
      rw [Nat.testBit_lt_two_pow (show 2 ^ k + r < 2 ^ i by omega), Nat.testBit_lt_two_pow (show r < 2 ^ i by omega)]
      simp [show ¬ k = i by omega]
  have b1 := wb_lt2 (show k + 1 < 64 by omega)
  have b2 := wb_lt2 (show k < 64 by omega)
  apply wb_inj
  rw [Int64.toBitVec_xor, wb_tb, wb_tb, wb_tb]
  apply BitVec.eq_of_toNat_eq
  rw [BitVec.toNat_xor, BitVec.toNat_ofNat, BitVec.toNat_ofNat, BitVec.toNat_ofNat, Nat.mod_eq_of_lt (by omega : 2 ^ k + r < 2 ^ 64), Nat.mod_eq_of_lt b2, hx, Nat.add_sub_cancel_left, Nat.mod_eq_of_lt (by omega)]
/-! ===== lN: masks, 'or' of parts that don't overlap is a sum ===== -/
theorem u_tn {n : Nat} (h : n < 2 ^ 64) : (UInt64.ofNat n).toNat = n := Nat.mod_eq_of_lt h
theorem g_and {a b c : Nat} (ha : a < 2 ^ 64) (hb : b < 2 ^ 64) (hc : a &&& b = c) : lN a &&& lN b = lN c := by
  subst hc
  have h : UInt64.ofNat a &&& UInt64.ofNat b = UInt64.ofNat (a &&& b) := UInt64.toNat_inj.mp (by rw [UInt64.toNat_and, u_tn ha, u_tn hb, u_tn (Nat.and_lt_two_pow a hb)])
  have h2 := congrArg UInt64.toInt64 h
  exact h2
theorem g_and1 {a : Nat} (ha : a < 2 ^ 64) : lN a &&& 1 = lN (a % 2) := g_and (b := 1) ha (by decide) (Nat.and_two_pow_sub_one_eq_mod a 1)
theorem g_mask {a s p : Nat} (hp : 2 ^ s = p) (hs : s < 64) (ha : a < 2 ^ 64) : lN a &&& lN (p - 1) = lN (a % p) := by
  subst hp
  have := Nat.pow_lt_pow_right (show 1 < 2 by decide) hs
  exact g_and ha (by omega) (Nat.and_two_pow_sub_one_eq_mod a s)
theorem g_or {k p a b : Nat} (hp : 2 ^ k = p) (ha : a < p) (h : b * p + a < 2 ^ 64) : lN (b * p) ||| lN a = lN (b * p + a) := by
  subst hp
  have h1 : b * 2 ^ k ||| a = b * 2 ^ k + a := by rw [← Nat.shiftLeft_eq, Nat.shiftLeft_add_eq_or_of_lt ha]
  have h3 : UInt64.ofNat (b * 2 ^ k) ||| UInt64.ofNat a = UInt64.ofNat (b * 2 ^ k + a) := UInt64.toNat_inj.mp (by rw [UInt64.toNat_or, u_tn (by omega), u_tn (by omega), u_tn h, h1])
  have h2 := congrArg UInt64.toInt64 h3
  exact h2
theorem g_or' {k p a b : Nat} (hp : 2 ^ k = p) (ha : a < p) (h : a + b * p < 2 ^ 64) : lN a ||| lN (b * p) = lN (a + b * p) := by
  rw [Int64.or_comm, g_or hp ha (by omega), Nat.add_comm]
theorem g_ushr {a k p : Nat} {y : UInt64} (hy : y = UInt64.ofNat k) (hk : k < 64) (hp : 2 ^ k = p) (ha : a < 2 ^ 64) : ((lN a).toUInt64 >>> y).toInt64 = lN (a / p) := by
  subst hy hp
  have h : UInt64.ofNat a >>> UInt64.ofNat k = UInt64.ofNat (a / 2 ^ k) := UInt64.toNat_inj.mp (by rw [UInt64.toNat_shiftRight, u_tn ha, u_tn (by omega), u_tn (Nat.lt_of_le_of_lt (Nat.div_le_self _ _) ha), Nat.mod_eq_of_lt hk, Nat.shiftRight_eq_div_pow])
  have h2 := congrArg UInt64.toInt64 h
  exact h2
theorem g_shl {a k p : Nat} {y : Int64} (hy : y.toBitVec.smod 64 = BitVec.ofNat 64 k) (hk : k < 64) (hp : 2 ^ k = p) (ha : a < 2 ^ 64) : lN a <<< y = lN (a * p) := by
  subst hp
  apply Int64.toBitVec_inj.mp
  rw [Int64.toBitVec_shiftLeft, hy]
  apply BitVec.eq_of_toNat_eq
  have hb : (lN a).toBitVec.toNat = a := Nat.mod_eq_of_lt ha
  have hk' : (BitVec.ofNat 64 k).toNat = k := Nat.mod_eq_of_lt (by omega)
  have h : ((lN a).toBitVec <<< BitVec.ofNat 64 k).toNat = (a * 2 ^ k) % 2 ^ 64 := by simp only [BitVec.shiftLeft_eq', BitVec.toNat_shiftLeft, hb, hk', Nat.shiftLeft_eq]
  exact h
/-! ===== lN to 2^62 under >> and >>> ===== -/
theorem pf_lI {a : Nat} (h : a < 2 ^ 63) : (lN a).toInt = (a : Int) := lg_ofNat_toInt h
theorem pf_shr {a d : Nat} {D : Int64} (hD : (D.toBitVec.smod 64).toNat = d) (h : a < 2 ^ 62) : lN a >>> D = lN (a / 2 ^ d) := by
  have hd : a / 2 ^ d ≤ a := Nat.div_le_self _ _
  apply Int64.toInt_inj.mp
  have e : (lN a >>> D).toInt = (lN a).toInt >>> d := by
    rw [← hD]
    exact BitVec.toInt_sshiftRight ..
  rw [e, Int.shiftRight_eq_div_pow, pf_lI (by omega), pf_lI (by omega)]
  rfl
theorem pf_ushr {a d : Nat} {D : UInt64} (hD : D.toNat % 64 = d) (h : a < 2 ^ 62) : ((lN a).toUInt64 >>> D).toInt64 = lN (a / 2 ^ d) := by
  have hd : a / 2 ^ d ≤ a := Nat.div_le_self _ _
  have e : (lN a).toUInt64 >>> D = UInt64.ofNat (a / 2 ^ d) := UInt64.toNat_inj.mp (by
    rw [UInt64.toNat_shiftRight, hD, Nat.shiftRight_eq_div_pow, UInt64.toNat_ofNat']
    show (UInt64.ofNat a).toNat / 2 ^ d = _
    rw [UInt64.toNat_ofNat', Nat.mod_eq_of_lt (by omega), Nat.mod_eq_of_lt (by omega)])
  rw [e]
  rfl
theorem pf_andw (x : Int64) : ∃ m, m < 2 ^ 32 ∧ x &&& 4294967295 = lN m := ⟨x.toBitVec.toNat % 2 ^ 32, Nat.mod_lt _ (by decide), Int64.toBitVec_inj.mp (BitVec.eq_of_toNat_eq (by
  show (x.toBitVec &&& 4294967295#64).toNat = (BitVec.ofNat 64 (x.toBitVec.toNat % 2 ^ 32)).toNat
  rw [BitVec.toNat_and, show (4294967295#64).toNat = 2 ^ 32 - 1 from by decide, Nat.and_two_pow_sub_one_eq_mod, BitVec.toNat_ofNat]
  omega))⟩
/-! ===== Int64 as an unsigned number: uN x ===== -/
def uN (x : Int64) : Nat := x.toUInt64.toNat
theorem uN_lt (x : Int64) : uN x < 18446744073709551616 := x.toUInt64.toNat_lt
theorem uN_inj {x y : Int64} (h : uN x = uN y) : x = y := congrArg UInt64.toInt64 (UInt64.toNat_inj.mp h)
theorem uN_add (x y : Int64) : uN (x + y) = (uN x + uN y) % 18446744073709551616 := by
  show (x.toUInt64 + y.toUInt64).toNat = _
  exact UInt64.toNat_add _ _
theorem uN_mul (x y : Int64) : uN (x * y) = (uN x * uN y) % 18446744073709551616 := by
  show (x.toUInt64 * y.toUInt64).toNat = _
  exact UInt64.toNat_mul _ _
theorem uN_shl (x : Int64) : uN (x <<< ((1 : Int32).toInt64 &&& 63)) = (2 * uN x) % 18446744073709551616 := by
  have h : (((1 : Int32).toInt64 &&& 63).toBitVec.smod 64).toNat = 1 := by decide
  show (x.toBitVec <<< (((1 : Int32).toInt64 &&& 63).toBitVec.smod 64).toNat).toNat = _
  rw [h, BitVec.toNat_shiftLeft, Nat.shiftLeft_eq, Nat.mul_comm]
  rfl
theorem uN_shr (x : Int64) (s : UInt64) : uN (x.toUInt64 >>> s).toInt64 = uN x / 2 ^ (s.toNat % 64) := by
  show (x.toUInt64 >>> s).toNat = _
  rw [UInt64.toNat_shiftRight, Nat.shiftRight_eq_div_pow]
  rfl
theorem uN_s32 (x : Int64) : uN (x.toUInt64 >>> ((32 : Int32).toInt64.toUInt64 &&& Int64.toUInt64 63)).toInt64 = uN x / 4294967296 := by
  have h : ((32 : Int32).toInt64.toUInt64 &&& Int64.toUInt64 63).toNat % 64 = 32 := by decide
  rw [uN_shr, h]
theorem uN_s63 (x : Int64) : uN (x.toUInt64 >>> ((63 : Int32).toInt64.toUInt64 &&& Int64.toUInt64 63)).toInt64 = uN x / 9223372036854775808 := by
  have h : ((63 : Int32).toInt64.toUInt64 &&& Int64.toUInt64 63).toNat % 64 = 63 := by decide
  rw [uN_shr, h]
theorem uN_lo (x : Int64) : uN (x &&& 4294967295) = uN x % 4294967296 := by
  show (x.toUInt64 &&& Int64.toUInt64 4294967295).toNat = _
  rw [UInt64.toNat_and]
  exact Nat.and_two_pow_sub_one_eq_mod _ 32
theorem uN_bit (x : Int64) : (x &&& 1) = 0 ↔ uN x % 2 = 0 := by
  have h : uN (x &&& 1) = uN x % 2 := by
    show (x.toUInt64 &&& Int64.toUInt64 1).toNat = _
    rw [UInt64.toNat_and]
    exact Nat.and_two_pow_sub_one_eq_mod _ 1
  rw [← h]
  exact ⟨fun z => by rw [z]; rfl, fun z => uN_inj (z.trans rfl)⟩
theorem uN_or {x y : Int64} (hy : uN y < 2) : uN ((x <<< ((1 : Int32).toInt64 &&& 63)) ||| y) = (2 * uN x) % 18446744073709551616 + uN y := by
  have h1 : uN ((x <<< ((1 : Int32).toInt64 &&& 63)) ||| y) = uN (x <<< ((1 : Int32).toInt64 &&& 63)) ||| uN y := UInt64.toNat_or _ _
  have h2 : (2 * uN x) % 18446744073709551616 = 2 ^ 1 * (uN x % 9223372036854775808) := by omega
  rw [h1, uN_shl, h2]
  exact (Nat.two_pow_add_eq_or_of_lt (i := 1) hy _).symm
theorem nat_xor {a : Nat} (h : a < 18446744073709551616) : a ^^^ 2 ^ 63 = (a + 9223372036854775808) % 18446744073709551616 := by
  have h1 : (a ^^^ 2 ^ 63) % 2 ^ 63 = a % 2 ^ 63 := by rw [Nat.xor_mod_two_pow, Nat.mod_self, Nat.xor_zero]
  have h2 : (a ^^^ 2 ^ 63) / 2 ^ 63 = (a / 2 ^ 63) ^^^ 1 := by rw [Nat.xor_div_two_pow, Nat.div_self (Nat.two_pow_pos 63)]
  have h3 : a / 2 ^ 63 = 0 ∨ a / 2 ^ 63 = 1 := by omega
  generalize a ^^^ 2 ^ 63 = t at h1 h2
  rcases h3 with h3 | h3
  · rw [h3] at h2
    have h2 : t / 2 ^ 63 = 1 := h2
    omega
  · rw [h3] at h2
    have h2 : t / 2 ^ 63 = 0 := h2
    omega
theorem uN_xor (x : Int64) : uN (x ^^^ (-9223372036854775808)) = (uN x + 9223372036854775808) % 18446744073709551616 := by
  rw [← nat_xor (uN_lt x)]
  exact UInt64.toNat_xor _ _
theorem uN_int (x : Int64) : x.toInt = if 2 * uN x < 18446744073709551616 then (uN x : Int) else (uN x : Int) - 18446744073709551616 := BitVec.toInt_eq_toNat_cond _
theorem uN_le (x y : Int64) : (x ^^^ (-9223372036854775808)) ≤ (y ^^^ (-9223372036854775808)) ↔ uN x ≤ uN y := by
  have hx := uN_lt x
  have hy := uN_lt y
  rw [Int64.le_iff_toInt_le, uN_int, uN_int, uN_xor, uN_xor]
  omega
theorem uN_sk (x : Int64) {k : Nat} (hk : k < 64) : uN (x.toUInt64 >>> ((nI k).toInt64.toUInt64 &&& Int64.toUInt64 63)).toInt64 = uN x / 2 ^ k := by
  have h : ((nI k).toInt64.toUInt64 &&& Int64.toUInt64 63).toNat % 64 = k := by
    rw [nI_l (by omega), UInt64.toNat_and]
    have e : (lN k).toUInt64.toNat = k % 2 ^ 64 := rfl
    have e2 : (Int64.toUInt64 63).toNat = 2 ^ 6 - 1 := by decide
    rw [e, e2, Nat.and_two_pow_sub_one_eq_mod]
    omega
  rw [uN_shr, h]
/-! ===== unsigned comparison by xor with the least ===== -/
theorem lN_bv (n : Nat) : (lN n).toBitVec = BitVec.ofNat 64 n := rfl
theorem lN_nat {n : Nat} (h : n < 2 ^ 64) : (lN n).toBitVec.toNat = n := by rw [lN_bv, BitVec.toNat_ofNat]; exact Nat.mod_eq_of_lt h
theorem lN_xor (a b : Nat) : lN a ^^^ lN b = lN (a ^^^ b) := by
  apply Int64.toBitVec_inj.mp; rw [Int64.toBitVec_xor, lN_bv, lN_bv, lN_bv]; apply BitVec.eq_of_getLsbD_eq; intro i hi; simp [BitVec.getLsbD_ofNat, Nat.testBit_xor, hi]
theorem lN_ti {m : Nat} (h : m < 2 ^ 64) : (lN m).toInt = if m < 2 ^ 63 then (m : Int) else (m : Int) - 2 ^ 64 := by
  have c := BitVec.toInt_eq_toNat_cond (lN m).toBitVec
  rw [lN_nat h] at c
  show (lN m).toBitVec.toInt = _
  rw [c]
  split <;> split <;> omega
theorem xor63 {x : Nat} (h : x < 2 ^ 63) : x ^^^ 2 ^ 63 = 2 ^ 63 + x := by
  apply Nat.eq_of_testBit_eq
  intro i
  rw [Nat.testBit_xor, Nat.testBit_two_pow]
  rcases Nat.lt_trichotomy i 63 with z | z | z
  · rw [Nat.testBit_two_pow_add_gt z, decide_eq_false (by omega)]; simp
  · subst z; rw [Nat.testBit_two_pow_add_eq]; simp
  · have hp : 2 ^ 64 ≤ 2 ^ i := Nat.pow_le_pow_right (by decide) z
    rw [Nat.testBit_lt_two_pow (show x < 2 ^ i by omega), Nat.testBit_lt_two_pow (show 2 ^ 63 + x < 2 ^ i by omega), decide_eq_false (by omega)]; rfl
theorem xorS {a : Nat} (h : a < 2 ^ 64) : (lN a ^^^ (-9223372036854775808)).toInt = (a : Int) - 2 ^ 63 := by
  rw [show (-9223372036854775808 : Int64) = lN (2 ^ 63) from by decide +kernel, lN_xor]
  rcases Nat.lt_or_ge a (2 ^ 63) with z | z
  · rw [xor63 z, lN_ti (by omega), if_neg (by omega)]; omega
  · obtain ⟨x, rfl⟩ : ∃ x, a = 2 ^ 63 + x := ⟨a - 2 ^ 63, by omega⟩
    rw [← xor63 (by omega), Nat.xor_assoc, Nat.xor_self, Nat.xor_zero, lN_ti (by omega), if_pos (by omega), xor63 (by omega)]; omega
theorem ultL {a b : Nat} (ha : a < 2 ^ 64) (hb : b < 2 ^ 64) : ((lN b ^^^ (-9223372036854775808)) ≤ (lN a ^^^ (-9223372036854775808))) ↔ b ≤ a := by
  rw [Int64.le_iff_toInt_le, xorS ha, xorS hb]; omega
/-! ===== Int64 masks of n low bits ===== -/
theorem cr_bits (W U M : BitVec 64) : ((W &&& U) &&& (U &&& (M ^^^ BitVec.allOnes 64))) = 0#64 ↔ (W &&& U) &&& M = W &&& U := by
  constructor
  · intro h
    apply BitVec.eq_of_getLsbD_eq
    intro i hi
    have e := congrArg (fun x => BitVec.getLsbD x i) h
    simp only [BitVec.getLsbD_and, BitVec.getLsbD_xor, BitVec.getLsbD_allOnes, BitVec.getLsbD_zero, hi, decide_true] at e ⊢
    revert e
    cases W.getLsbD i <;> cases U.getLsbD i <;> cases M.getLsbD i <;> decide
  · intro h
    apply BitVec.eq_of_getLsbD_eq
    intro i hi
    have e := congrArg (fun x => BitVec.getLsbD x i) h
    simp only [BitVec.getLsbD_and, BitVec.getLsbD_xor, BitVec.getLsbD_allOnes, BitVec.getLsbD_zero, hi, decide_true] at e ⊢
    revert e
    cases W.getLsbD i <;> cases U.getLsbD i <;> cases M.getLsbD i <;> decide
theorem cr_mask (w U m : Int64) (n : Nat) (hm : m.toBitVec.toNat = 2 ^ n - 1) : ((w &&& U) &&& (U &&& (m ^^^ (-1)))) = 0 ↔ (w &&& U).toBitVec.toNat < 2 ^ n := by
  have e0 : (-1 : Int64).toBitVec = BitVec.allOnes 64 := by decide
  have z0 : (0 : Int64).toBitVec = 0#64 := by decide
  rw [← Int64.toBitVec_inj, z0, Int64.toBitVec_and, Int64.toBitVec_and, Int64.toBitVec_and, Int64.toBitVec_xor, e0, cr_bits]
  generalize w.toBitVec &&& U.toBitVec = T
  rw [← BitVec.toNat_inj, BitVec.toNat_and, hm, Nat.and_two_pow_sub_one_eq_mod]
  constructor
  · intro h
    have t := Nat.mod_lt T.toNat (Nat.two_pow_pos n)
    rw [h] at t
    exact t
  · exact Nat.mod_eq_of_lt
theorem cr_shr (t : Int64) (x : UInt64) (n : Nat) (hx : x.toNat % 64 = n) : (t.toUInt64 >>> x).toInt64 = 0 ↔ t.toBitVec.toNat < 2 ^ n := by
  rw [← Int64.toBitVec_inj, ← BitVec.toNat_inj]
  show (t.toUInt64 >>> x).toNat = 0 ↔ t.toUInt64.toNat < 2 ^ n
  rw [UInt64.toNat_shiftRight, hx, Nat.shiftRight_eq_div_pow]
  constructor
  · intro h
    have d : t.toUInt64.toNat / 2 ^ n < 1 := by
      rw [h]
      decide
    have e := (Nat.div_lt_iff_lt_mul (Nat.two_pow_pos n)).mp d
    rw [Nat.one_mul] at e
    exact e
  · exact Nat.div_eq_of_lt
theorem cr_amt (s : Int64) : ∃ n, n < 64 ∧ s &&& 63 = lN n ∧ (s.toUInt64 &&& Int64.toUInt64 63).toNat % 64 = n := by
  have e : (s.toUInt64 &&& Int64.toUInt64 63).toNat = s.toUInt64.toNat % 2 ^ 6 := by
    rw [UInt64.toNat_and, show (Int64.toUInt64 63).toNat = 2 ^ 6 - 1 from by decide, Nat.and_two_pow_sub_one_eq_mod]
  refine ⟨s.toUInt64.toNat % 2 ^ 6, by omega, ?_, by omega⟩
  rw [← Int64.toBitVec_inj, ← BitVec.toNat_inj]
  show (s.toUInt64 &&& Int64.toUInt64 63).toNat = (BitVec.ofNat 64 (s.toUInt64.toNat % 2 ^ 6)).toNat
  rw [e, BitVec.toNat_ofNat]
  omega
end
section
/-! An abstract machine over the kit's worlds: a state is four functions (int fields, long fields, int elements, long elements) over a fixed shape of cells; a reference is a cell's number. -/
abbrev am_S : Type := ((Nat → Nat → Int32) × (Nat → Nat → Int64)) × ((Nat → Nat → Int32) × (Nat → Nat → Int64))
abbrev am_K : Type := Option (Option Nat)
abbrev am_C : Type := (Nat × FieldType × Nat) ⊕ (Nat × List am_K)
abbrev am_X : Type := Value × Nat × Nat × Nat
abbrev am_I : Type := Instr × Nat × am_X
abbrev am_F : Type := Nat × List (Option Value) × List Value × am_S
abbrev am_O : Type := Option (List Prop × List Nat × am_F)
def am_fi (σ : am_S) (k j : Nat) (v : Int32) : am_S := ((fun a b => if b = j then (if a = k then v else σ.1.1 a b) else σ.1.1 a b, σ.1.2), σ.2)
def am_fl (σ : am_S) (k j : Nat) (v : Int64) : am_S := ((σ.1.1, fun a b => if b = j then (if a = k then v else σ.1.2 a b) else σ.1.2 a b), σ.2)
def am_ai (σ : am_S) (k j : Nat) (v : Int32) : am_S := (σ.1, (fun a => if a = k then upd (σ.2.1 k) j v else σ.2.1 a, σ.2.2))
def am_al (σ : am_S) (k j : Nat) (v : Int64) : am_S := (σ.1, (σ.2.1, fun a => if a = k then vp_updL (σ.2.2 k) j v else σ.2.2 a))
def am_v (ρ : Nat → Nat) : Value → Value
  | .ref k => .ref (ρ k)
  | v => v
theorem am_v_int (ρ : Nat → Nat) (x : Int32) : am_v ρ (.int x) = .int x := rfl
theorem am_v_long (ρ : Nat → Nat) (x : Int64) : am_v ρ (.long x) = .long x := rfl
theorem am_v_ref (ρ : Nat → Nat) (k : Nat) : am_v ρ (.ref k) = .ref (ρ k) := rfl
theorem am_v_cat (ρ : Nat → Nat) (v : Value) : (am_v ρ v).category = v.category := by cases v <;> rfl
/-! the cells -/
def am_fv (ρ : Nat → Nat) (σ : am_S) (k j : Nat) (kd : am_K) : Value := match kd with
  | none => .int (σ.1.1 k j)
  | some none => .long (σ.1.2 k j)
  | some (some q) => .ref (ρ q)
def am_flds (ρ : Nat → Nat) (σ : am_S) (k : Nat) : Nat → List am_K → List Value
  | _, [] => []
  | j, kd :: r => am_fv ρ σ k j kd :: am_flds ρ σ k (j + 1) r
def am_con (σ : am_S) (ty : FieldType) (k : Nat) : (Nat → Int32) ⊕ (Nat → Int64) ⊕ (Nat → UInt32) ⊕ (Nat → UInt64) ⊕ (Nat → Option Nat) := match ty with
  | .long => .inr (.inl (σ.2.2 k))
  | _ => .inl (σ.2.1 k)
def am_cell (sh : Nat → am_C) (ca : Nat → ClassId) (ρ : Nat → Nat) (σ : am_S) (k : Nat) : va_E := match sh k with
  | .inl a => .inl (ca a.1, a.2.2, am_con σ a.2.1 k)
  | .inr o => .inr (o.1, am_flds ρ σ k 0 o.2)
def am_ws (sh : Nat → am_C) (ca : Nat → ClassId) (ρ : Nat → Nat) (N : Nat) (σ : am_S) : va_W := (List.range N).map (fun k => (ρ k, am_cell sh ca ρ σ k))
theorem am_ws_at {sh : Nat → am_C} {ca : Nat → ClassId} {ρ : Nat → Nat} {N : Nat} {σ : am_S} {k : Nat} (hk : k < N) : (am_ws sh ca ρ N σ)[k]? = some (ρ k, am_cell sh ca ρ σ k) := by
  simp [am_ws, hk]
theorem am_ws_len {sh : Nat → am_C} {ca : Nat → ClassId} {ρ : Nat → Nat} {N : Nat} {σ : am_S} : (am_ws sh ca ρ N σ).length = N := by
  simp [am_ws]
theorem am_flds_len {ρ : Nat → Nat} {σ : am_S} {k : Nat} : ∀ (ks : List am_K) (j : Nat), (am_flds ρ σ k j ks).length = ks.length
  | [], _ => rfl
  | _ :: r, j => by simp [am_flds, am_flds_len r (j + 1)]
theorem am_flds_get {ρ : Nat → Nat} {σ : am_S} {k : Nat} {kd : am_K} : ∀ (ks : List am_K) (j0 j : Nat), ks[j]? = some kd → (am_flds ρ σ k j0 ks)[j]? = some (am_fv ρ σ k (j0 + j) kd)
  | [], _, _, h => by simp at h
  | a :: r, j0, 0, h => by simp at h; subst h; simp [am_flds]
  | a :: r, j0, j + 1, h => by
    have h1 : r[j]? = some kd := by simpa using h
    have := am_flds_get (ρ := ρ) (σ := σ) (k := k) r (j0 + 1) j h1
    simp only [am_flds, List.getElem?_cons_succ]
    rw [this]
    congr 2
    omega
theorem am_flds_congr {ρ : Nat → Nat} {σ τ : am_S} {k : Nat} : ∀ (ks : List am_K) (j : Nat), (∀ b, j ≤ b → σ.1.1 k b = τ.1.1 k b) → (∀ b, j ≤ b → σ.1.2 k b = τ.1.2 k b) → am_flds ρ σ k j ks = am_flds ρ τ k j ks
  | [], _, _, _ => rfl
  | kd :: r, j, h1, h2 => by
    simp only [am_flds]
    rw [am_flds_congr r (j + 1) (fun b hb => h1 b (by omega)) (fun b hb => h2 b (by omega))]
    congr 1
    cases kd with
    | none => simp [am_fv, h1 j (Nat.le_refl _)]
    | some q => cases q with
      | none => simp [am_fv, h2 j (Nat.le_refl _)]
      | some q => rfl
theorem am_flds_seti {ρ : Nat → Nat} {σ : am_S} {k : Nat} {v : Int32} : ∀ (ks : List am_K) (j0 j : Nat), ks[j]? = some none → (am_flds ρ σ k j0 ks).set j (.int v) = am_flds ρ (am_fi σ k (j0 + j) v) k j0 ks
  | [], _, _, h => by simp at h
  | a :: r, j0, 0, h => by
    simp at h
    subst h
    simp only [am_flds, List.set_cons_zero, Nat.add_zero]
    rw [am_flds_congr r (j0 + 1) (σ := am_fi σ k j0 v) (τ := σ) (fun b hb => by simp [am_fi, show b ≠ j0 by omega]) (fun b hb => rfl)]
    simp [am_fv, am_fi]
  | a :: r, j0, j + 1, h => by
    have h1 : r[j]? = some none := by simpa using h
    have e := am_flds_seti (ρ := ρ) (σ := σ) (k := k) (v := v) r (j0 + 1) j h1
    have e2 : j0 + 1 + j = j0 + (j + 1) := by omega
    rw [e2] at e
    simp only [am_flds, List.set_cons_succ, e]
    congr 1
    cases a with
    | none => simp [am_fv, am_fi]
    | some q => cases q <;> rfl
theorem am_flds_setl {ρ : Nat → Nat} {σ : am_S} {k : Nat} {v : Int64} : ∀ (ks : List am_K) (j0 j : Nat), ks[j]? = some (some none) → (am_flds ρ σ k j0 ks).set j (.long v) = am_flds ρ (am_fl σ k (j0 + j) v) k j0 ks
  | [], _, _, h => by simp at h
  | a :: r, j0, 0, h => by
    simp at h
    subst h
    simp only [am_flds, List.set_cons_zero, Nat.add_zero]
    rw [am_flds_congr r (j0 + 1) (σ := am_fl σ k j0 v) (τ := σ) (fun b hb => rfl) (fun b hb => by simp [am_fl, show b ≠ j0 by omega])]
    simp [am_fv, am_fl]
  | a :: r, j0, j + 1, h => by
    have h1 : r[j]? = some (some none) := by simpa using h
    have e := am_flds_setl (ρ := ρ) (σ := σ) (k := k) (v := v) r (j0 + 1) j h1
    have e2 : j0 + 1 + j = j0 + (j + 1) := by omega
    rw [e2] at e
    simp only [am_flds, List.set_cons_succ, e]
    congr 1
    cases a with
    | none => rfl
    | some q => cases q with
      | none => simp [am_fv, am_fl]
      | some q => rfl
theorem am_ws_set {sh : Nat → am_C} {ca : Nat → ClassId} {ρ : Nat → Nat} {N k : Nat} {σ τ : am_S} {e : va_E} (he : e = am_cell sh ca ρ τ k) (h : ∀ q, q ≠ k → am_cell sh ca ρ τ q = am_cell sh ca ρ σ q) : (am_ws sh ca ρ N σ).set k (ρ k, e) = am_ws sh ca ρ N τ := by
  subst he
  apply List.ext_getElem?
  intro i
  by_cases hi : i < N
  · rw [am_ws_at hi, List.getElem?_set, am_ws_len]
    by_cases hk : k = i
    · subst hk
      simp [hi]
    · rw [if_neg hk, am_ws_at hi, h i (fun q => hk q.symm)]
  · rw [List.getElem?_eq_none (by simp [am_ws_len]; omega), List.getElem?_eq_none (by rw [am_ws_len]; omega)]
theorem am_cell_congr {sh : Nat → am_C} {ca : Nat → ClassId} {ρ : Nat → Nat} {σ τ : am_S} {q : Nat} (h1 : ∀ b, τ.1.1 q b = σ.1.1 q b) (h2 : ∀ b, τ.1.2 q b = σ.1.2 q b) (h3 : τ.2.1 q = σ.2.1 q) (h4 : τ.2.2 q = σ.2.2 q) : am_cell sh ca ρ τ q = am_cell sh ca ρ σ q := by
  unfold am_cell
  cases sh q with
  | inl a =>
    obtain ⟨t0, ty, n⟩ := a
    simp only
    congr 3
    unfold am_con
    cases ty <;> simp [h3, h4]
  | inr o =>
    simp only
    rw [am_flds_congr o.2 0 (fun b _ => h1 b) (fun b _ => h2 b)]
end
section
/-! the locals: place by place -/
def am_L (ρ : Nat → Nat) (L : List (Option Value)) (ls : Array Slot) : Prop := ls.size = L.length ∧ lv_wf ls ∧ ∀ (i : Nat) (v : Value), L[i]? = some (some v) → ls[i]? = some (.val (am_v ρ v))
def am_as (ρ : Nat → Nat) : Nat → List (Option Value) → List (Nat × Value)
  | _, [] => []
  | i, none :: r => am_as ρ (i + 1) r
  | i, some v :: r => (i, am_v ρ v) :: am_as ρ (i + 1) r
theorem am_as_in {ρ : Nat → Nat} : ∀ (L : List (Option Value)) (j : Nat) (q : Nat × Value), q ∈ am_as ρ j L → ∃ (n : Nat) (v : Value), L[n]? = some (some v) ∧ q = (j + n, am_v ρ v)
  | [], _, _, h => by simp [am_as] at h
  | none :: r, j, q, h => by
    obtain ⟨n, v, h1, h2⟩ := am_as_in r (j + 1) q h
    exact ⟨n + 1, v, by simpa using h1, by rw [h2]; congr 1; omega⟩
  | some w :: r, j, q, h => by
    simp only [am_as, List.mem_cons] at h
    rcases h with h | h
    · exact ⟨0, w, by simp, by rw [h]; rfl⟩
    · obtain ⟨n, v, h1, h2⟩ := am_as_in r (j + 1) q h
      exact ⟨n + 1, v, by simpa using h1, by rw [h2]; congr 1; omega⟩
theorem am_as_of {ρ : Nat → Nat} : ∀ (L : List (Option Value)) (j n : Nat) (v : Value), L[n]? = some (some v) → (j + n, am_v ρ v) ∈ am_as ρ j L
  | [], _, _, _, h => by simp at h
  | a :: r, j, 0, v, h => by
    simp at h
    subst h
    simp [am_as]
  | a :: r, j, n + 1, v, h => by
    have h1 : r[n]? = some (some v) := by simpa using h
    have h2 := am_as_of (ρ := ρ) r (j + 1) n v h1
    have e : j + 1 + n = j + (n + 1) := by omega
    rw [e] at h2
    cases a with
    | none => exact h2
    | some w => exact List.mem_cons_of_mem _ h2
theorem am_L.has {ρ : Nat → Nat} {L : List (Option Value)} {ls : Array Slot} (h : am_L ρ L ls) : lv_has ls L.length (am_as ρ 0 L) := by
  refine ⟨h.1, h.2.1, fun q hq => ?_⟩
  obtain ⟨n, v, h1, h2⟩ := am_as_in L 0 q hq
  subst h2
  simpa using h.2.2 n v h1
theorem am_L.at {ρ : Nat → Nat} {L : List (Option Value)} {ls : Array Slot} (h : am_L ρ L ls) {i : Nat} {v : Value} (hv : L[i]? = some (some v)) : ls[i]? = some (.val (am_v ρ v)) := h.2.2 i v hv
def am_w2 (L : List (Option Value)) (i : Nat) : Bool := match i with
  | 0 => false
  | j + 1 => match L[j]? with
    | some (some v) => v.category == 2
    | _ => false
def am_st1 (L : List (Option Value)) (i : Nat) (v : Value) : Option (List (Option Value)) := if i < L.length then (if am_w2 L i = true then none else some (L.set i (some v))) else none
def am_st2 (L : List (Option Value)) (i : Nat) (v : Value) : Option (List (Option Value)) := if i + 1 < L.length then (if am_w2 L i = true then none else some ((L.set i (some v)).set (i + 1) none)) else none
theorem am_w2_no {L : List (Option Value)} {i j : Nat} {w : Value} (h : ¬ am_w2 L i = true) (hj : j + 1 = i) (hw : L[j]? = some (some w)) : ¬ w.category = 2 := by
  subst hj
  simpa [am_w2, hw] using h
theorem am_st1_ok {ρ : Nat → Nat} {L L' : List (Option Value)} {i : Nat} {v : Value} (h : am_st1 L i v = some L') : i < L.length ∧ L'.length = L.length ∧ ∀ ls' : Array Slot, lv_has ls' L.length ((i, am_v ρ v) :: (am_as ρ 0 L).filter (fun q => !(q.1 == i) && !(q.1 + 1 == i && q.2.category == 2))) → am_L ρ L' ls' := by
  unfold am_st1 at h
  split at h
  · rename_i hi
    split at h
    · cases h
    · rename_i hw
      cases h
      refine ⟨hi, by simp, fun ls' hl => ⟨by rw [hl.1]; simp, hl.2.1, fun j w hj => ?_⟩⟩
      rw [List.getElem?_set] at hj
      by_cases e : i = j
      · subst e
        simp [hi] at hj
        subst hj
        exact hl.2.2 (i, am_v ρ v) List.mem_cons_self
      · rw [if_neg e] at hj
        refine hl.2.2 (j, am_v ρ w) (List.mem_cons_of_mem _ (List.mem_filter.mpr ⟨by simpa using am_as_of (ρ := ρ) L 0 j w hj, ?_⟩))
        have e' : ¬ j = i := fun q => e q.symm
        by_cases e2 : j + 1 = i
        · have := am_w2_no hw e2 hj
          simp [e', e2, am_v_cat, this]
        · simp [e', e2]
  · cases h
theorem am_st2_ok {ρ : Nat → Nat} {L L' : List (Option Value)} {i : Nat} {v : Value} (h : am_st2 L i v = some L') : i + 1 < L.length ∧ L'.length = L.length ∧ ∀ ls' : Array Slot, lv_has ls' L.length ((i, am_v ρ v) :: (am_as ρ 0 L).filter (fun q => !(q.1 == i) && (!(q.1 == i + 1) && !(q.1 + 1 == i && q.2.category == 2)))) → am_L ρ L' ls' := by
  unfold am_st2 at h
  split at h
  · rename_i hi
    split at h
    · cases h
    · rename_i hw
      cases h
      refine ⟨hi, by simp, fun ls' hl => ⟨by rw [hl.1]; simp, hl.2.1, fun j w hj => ?_⟩⟩
      rw [List.getElem?_set] at hj
      by_cases e0 : i + 1 = j
      · subst e0
        simp [hi] at hj
      · rw [if_neg e0, List.getElem?_set] at hj
        by_cases e : i = j
        · subst e
          simp [show i < L.length by omega] at hj
          subst hj
          exact hl.2.2 (i, am_v ρ v) List.mem_cons_self
        · rw [if_neg e] at hj
          refine hl.2.2 (j, am_v ρ w) (List.mem_cons_of_mem _ (List.mem_filter.mpr ⟨by simpa using am_as_of (ρ := ρ) L 0 j w hj, ?_⟩))
          have e' : ¬ j = i := fun q => e q.symm
          have e0' : ¬ j = i + 1 := fun q => e0 q.symm
          by_cases e2 : j + 1 = i
          · have := am_w2_no hw e2 hj
            simp [e', e0', e2, am_v_cat, this]
          · simp [e', e0', e2]
  · cases h
/-! the locals with which a method begins -/
def am_en : List Value → List (Option Value)
  | [] => []
  | v :: r => if v.category = 2 then some v :: none :: am_en r else some v :: am_en r
theorem am_en_at {ρ : Nat → Nat} : ∀ (vs : List Value) (j n : Nat) (v : Value), (am_en vs)[n]? = some (some v) → (j + n, am_v ρ v) ∈ lv_args j (vs.map (am_v ρ))
  | [], _, _, _, h => by simp [am_en] at h
  | a :: r, j, n, v, h => by
    simp only [am_en] at h
    simp only [List.map_cons, lv_args, am_v_cat]
    by_cases hc : a.category = 2
    · rw [if_pos hc] at h ⊢
      match n, h with
      | 0, h => simp at h; subst h; exact List.mem_cons_self
      | 1, h => simp at h
      | n + 2, h =>
        have h1 : (am_en r)[n]? = some (some v) := by simpa using h
        have h2 := am_en_at (ρ := ρ) r (j + 2) n v h1
        have e : j + 2 + n = j + (n + 2) := by omega
        rw [e] at h2
        exact List.mem_cons_of_mem _ h2
    · rw [if_neg hc] at h ⊢
      match n, h with
      | 0, h => simp at h; subst h; exact List.mem_cons_self
      | n + 1, h =>
        have h1 : (am_en r)[n]? = some (some v) := by simpa using h
        have h2 := am_en_at (ρ := ρ) r (j + 1) n v h1
        have e : j + 1 + n = j + (n + 1) := by omega
        rw [e] at h2
        exact List.mem_cons_of_mem _ h2
def am_ent (vs : List Value) (n : Nat) : List (Option Value) := am_en vs ++ List.replicate (n - (am_en vs).length) none
theorem am_en_len (ρ : Nat → Nat) : ∀ (vs : List Value), (lg_sl (vs.map (am_v ρ))).length = (am_en vs).length
  | [] => rfl
  | a :: r => by
    have ih := am_en_len ρ r
    simp only [lg_sl, List.map_cons, List.flatMap_cons, List.length_append, am_en, am_v_cat] at ih ⊢
    by_cases hc : a.category = 2
    · rw [if_pos hc, if_pos hc, ih]
      simp
      omega
    · rw [if_neg hc, if_neg hc, ih]
      simp
      omega
theorem am_ent_ok {ρ : Nat → Nat} {vs : List Value} {n : Nat} {ls : Array Slot} (hn : (am_en vs).length ≤ n) (h : lv_has ls n (lv_args 0 (vs.map (am_v ρ)))) : am_L ρ (am_ent vs n) ls := by
  refine ⟨by rw [h.1]; simp [am_ent]; omega, h.2.1, fun i v hv => ?_⟩
  unfold am_ent at hv
  rw [List.getElem?_append] at hv
  split at hv
  · have := am_en_at (ρ := ρ) vs 0 i v hv
    simpa using h.2.2 _ this
  · rw [List.getElem?_replicate] at hv
    split at hv
    · cases hv
    · cases hv
end
section
/-! a class's links: its name; constants (pool number, value); fields (pool number, class, place, kind, by the nest); static arrays (pool number, cell, place in the list of statics, by the nest) -/
abbrev am_Y : Type := String × List (Nat × Value) × List (Nat × Nat × Nat × Nat × Bool) × List (Nat × Nat × Nat × Bool)
def am_ck (Y : am_Y) (pc : Nat) (i : Instr) (x : am_X) : Bool := match i with
  | .iconst n => decide (Value.int (Int32.ofInt n) = x.1)
  | .bipush n => decide (Value.int (Int8.ofInt n).toInt32 = x.1)
  | .sipush n => decide (Value.int (Int16.ofInt n).toInt32 = x.1)
  | .lconst n => decide (Value.long (Int64.ofNat (n : Nat)) = x.1)
  | .ldc n => match x.1 with
    | .int v => decide ((n, Value.int v) ∈ Y.2.1)
    | _ => false
  | .ldc2_w n => match x.1 with
    | .long v => decide ((n, Value.long v) ∈ Y.2.1)
    | _ => false
  | .iinc _ n => decide (Value.int (Int32.ofInt n) = x.1)
  | .goto o => decide ((pc : Int) + o = (x.2.1 : Int))
  | .ifCond _ o => decide ((pc : Int) + o = (x.2.1 : Int))
  | .if_icmp _ o => decide ((pc : Int) + o = (x.2.1 : Int))
  | .lookupswitch _ ps => (ps.toList.zip (ps.toList.drop 1)).all (fun (a, next) => a.1 < next.1)
  | .getfield n => decide ((n, x.2.1, x.2.2.1, x.2.2.2, true) ∈ Y.2.2.1) || decide ((n, x.2.1, x.2.2.1, x.2.2.2, false) ∈ Y.2.2.1)
  | .putfield n => decide ((n, x.2.1, x.2.2.1, x.2.2.2, true) ∈ Y.2.2.1) || decide ((n, x.2.1, x.2.2.1, x.2.2.2, false) ∈ Y.2.2.1)
  | .getstatic n => (decide ((n, x.2.1, x.2.2.1, true) ∈ Y.2.2.2) || decide ((n, x.2.1, x.2.2.1, false) ∈ Y.2.2.2)) && decide (x.1 = .ref x.2.1)
  | _ => true
def am_kok (Y : am_Y) (tw : List Cond) : Prop := ∀ q ∈ Y.2.1, match q.2 with
  | .int v => Cond.constant Y.1 q.1 v ∈ tw
  | .long v => Cond.constantLong Y.1 q.1 v ∈ tw
  | _ => False
/-! instructions that work on the operand stack alone -/
def am_ldi (L : List (Option Value)) (k : Nat) (st : List Value) : Option (List Value) := match L[k]? with
  | some (some (.int v)) => some (.int v :: st)
  | _ => none
def am_ldl (L : List (Option Value)) (k : Nat) (st : List Value) : Option (List Value) := match L[k]? with
  | some (some (.long v)) => some (.long v :: st)
  | _ => none
def am_lda (L : List (Option Value)) (k : Nat) (st : List Value) : Option (List Value) := match L[k]? with
  | some (some (.ref v)) => some (.ref v :: st)
  | _ => none
def am_ii (g : Int32 → Int32 → Int32) (st : List Value) : Option (List Value) := match st with
  | .int b :: .int a :: r => some (.int (g a b) :: r)
  | _ => none
def am_ll (g : Int64 → Int64 → Int64) (st : List Value) : Option (List Value) := match st with
  | .long b :: .long a :: r => some (.long (g a b) :: r)
  | _ => none
def am_li (g : Int64 → Int32 → Int64) (st : List Value) : Option (List Value) := match st with
  | .int b :: .long a :: r => some (.long (g a b) :: r)
  | _ => none
def am_i1 (g : Int32 → Int32) (st : List Value) : Option (List Value) := match st with
  | .int a :: r => some (.int (g a) :: r)
  | _ => none
def am_c1 (a : Value) : Bool := a.category == 1
def am_p (i : Instr) (len : Nat) (x : am_X) (L : List (Option Value)) (st : List Value) : Option (List Value) := match i, len with
  | .iconst _, 1 => some (x.1 :: st)
  | .bipush _, 2 => some (x.1 :: st)
  | .sipush _, 3 => some (x.1 :: st)
  | .lconst _, 1 => some (x.1 :: st)
  | .ldc _, 2 => some (x.1 :: st)
  | .ldc2_w _, 3 => some (x.1 :: st)
  | .iload k, 2 => am_ldi L k st
  | .iload_n k, 1 => am_ldi L k st
  | .lload k, 2 => am_ldl L k st
  | .lload_n k, 1 => am_ldl L k st
  | .aload k, 2 => am_lda L k st
  | .aload_n k, 1 => am_lda L k st
  | .iadd, 1 => am_ii (fun a b => a + b) st
  | .isub, 1 => am_ii (fun a b => a - b) st
  | .imul, 1 => am_ii (fun a b => a * b) st
  | .iand, 1 => am_ii (fun a b => a &&& b) st
  | .ior, 1 => am_ii (fun a b => a ||| b) st
  | .ixor, 1 => am_ii (fun a b => a ^^^ b) st
  | .ishl, 1 => am_ii (fun a b => a <<< (b &&& 31)) st
  | .ishr, 1 => am_ii (fun a b => a >>> (b &&& 31)) st
  | .iushr, 1 => am_ii (fun a b => (a.toUInt32 >>> (b.toUInt32 &&& Int32.toUInt32 31)).toInt32) st
  | .ineg, 1 => am_i1 (fun a => -a) st
  | .i2b, 1 => am_i1 (fun a => a.toInt8.toInt32) st
  | .i2c, 1 => am_i1 (fun a => (a.toUInt32 % 65536).toInt32) st
  | .ladd, 1 => am_ll (fun a b => a + b) st
  | .lsub, 1 => am_ll (fun a b => a - b) st
  | .lmul, 1 => am_ll (fun a b => a * b) st
  | .land, 1 => am_ll (fun a b => a &&& b) st
  | .lor, 1 => am_ll (fun a b => a ||| b) st
  | .lxor, 1 => am_ll (fun a b => a ^^^ b) st
  | .lshl, 1 => am_li (fun a b => a <<< (b.toInt64 &&& 63)) st
  | .lshr, 1 => am_li (fun a b => a >>> (b.toInt64 &&& 63)) st
  | .lushr, 1 => am_li (fun a b => (a.toUInt64 >>> (b.toInt64.toUInt64 &&& Int64.toUInt64 63)).toInt64) st
  | .lcmp, 1 => match st with
    | .long b :: .long a :: r => some (.int (lg_cmp a b) :: r)
    | _ => none
  | .i2l, 1 => match st with
    | .int a :: r => some (.long a.toInt64 :: r)
    | _ => none
  | .l2i, 1 => match st with
    | .long a :: r => some (.int a.toInt32 :: r)
    | _ => none
  | .dup, 1 => match st with
    | a :: r => if am_c1 a = true then some (a :: a :: r) else none
    | _ => none
  | .pop, 1 => match st with
    | a :: r => if am_c1 a = true then some r else none
    | _ => none
  | .pop2, 1 => match st with
    | a :: r => if am_c1 a = true then none else some r
    | _ => none
  | .dup2, 1 => match st with
    | a :: b :: r => if am_c1 a = true then (if am_c1 b = true then some (a :: b :: a :: b :: r) else none) else some (a :: a :: b :: r)
    | [a] => if am_c1 a = true then none else some [a, a]
    | _ => none
  | .dup_x1, 1 => match st with
    | a :: b :: r => if am_c1 a = true then (if am_c1 b = true then some (a :: b :: a :: r) else none) else none
    | _ => none
  | .dup_x2, 1 => match st with
    | a :: b :: d :: r => if am_c1 a = true then (if am_c1 b = true then (if am_c1 d = true then some (a :: b :: d :: a :: r) else none) else none) else none
    | _ => none
  | .dup2_x1, 1 => match st with
    | a :: b :: r => if am_c1 a = true then none else (if am_c1 b = true then some (a :: b :: a :: r) else none)
    | _ => none
  | _, _ => none
theorem am_c1_y {ρ : Nat → Nat} {a : Value} (h : am_c1 a = true) : (am_v ρ a).category = 1 := by
  rw [am_v_cat]
  simpa [am_c1] using h
theorem am_c1_n {ρ : Nat → Nat} {a : Value} (h : ¬ am_c1 a = true) : (am_v ρ a).category = 2 := by
  rw [am_v_cat]
  rcases lv_cat a with q | q
  · exact absurd (by simp [am_c1, q]) h
  · exact q
theorem am_ck_ldc {Y : am_Y} {pc n : Nat} {x : am_X} (h : am_ck Y pc (.ldc n) x = true) : ∃ v, x.1 = .int v ∧ (n, Value.int v) ∈ Y.2.1 := by
  obtain ⟨x1, x2⟩ := x
  cases x1 with
  | int v => exact ⟨v, rfl, by simpa [am_ck] using h⟩
  | _ => simp [am_ck] at h
theorem am_ck_ldc2 {Y : am_Y} {pc n : Nat} {x : am_X} (h : am_ck Y pc (.ldc2_w n) x = true) : ∃ v, x.1 = .long v ∧ (n, Value.long v) ∈ Y.2.1 := by
  obtain ⟨x1, x2⟩ := x
  cases x1 with
  | long v => exact ⟨v, rfl, by simpa [am_ck] using h⟩
  | _ => simp [am_ck] at h
theorem am_ldi_ok {L : List (Option Value)} {k : Nat} {st st' : List Value} (h : am_ldi L k st = some st') : ∃ v, L[k]? = some (some (.int v)) ∧ st' = .int v :: st := by
  unfold am_ldi at h
  split at h
  · rename_i v hv
    cases h
    exact ⟨v, hv, rfl⟩
  · cases h
theorem am_ldl_ok {L : List (Option Value)} {k : Nat} {st st' : List Value} (h : am_ldl L k st = some st') : ∃ v, L[k]? = some (some (.long v)) ∧ st' = .long v :: st := by
  unfold am_ldl at h
  split at h
  · rename_i v hv
    cases h
    exact ⟨v, hv, rfl⟩
  · cases h
theorem am_lda_ok {L : List (Option Value)} {k : Nat} {st st' : List Value} (h : am_lda L k st = some st') : ∃ v, L[k]? = some (some (.ref v)) ∧ st' = .ref v :: st := by
  unfold am_lda at h
  split at h
  · rename_i v hv
    cases h
    exact ⟨v, hv, rfl⟩
  · cases h
theorem am_ii_ok {g : Int32 → Int32 → Int32} {st st' : List Value} (h : am_ii g st = some st') : ∃ a b r, st = .int b :: .int a :: r ∧ st' = .int (g a b) :: r := by
  unfold am_ii at h
  split at h
  · cases h
    exact ⟨_, _, _, rfl, rfl⟩
  · cases h
theorem am_ll_ok {g : Int64 → Int64 → Int64} {st st' : List Value} (h : am_ll g st = some st') : ∃ a b r, st = .long b :: .long a :: r ∧ st' = .long (g a b) :: r := by
  unfold am_ll at h
  split at h
  · cases h
    exact ⟨_, _, _, rfl, rfl⟩
  · cases h
theorem am_li_ok {g : Int64 → Int32 → Int64} {st st' : List Value} (h : am_li g st = some st') : ∃ a b r, st = .int b :: .long a :: r ∧ st' = .long (g a b) :: r := by
  unfold am_li at h
  split at h
  · cases h
    exact ⟨_, _, _, rfl, rfl⟩
  · cases h
theorem am_i1_ok {g : Int32 → Int32} {st st' : List Value} (h : am_i1 g st = some st') : ∃ a r, st = .int a :: r ∧ st' = .int (g a) :: r := by
  unfold am_i1 at h
  split at h
  · cases h
    exact ⟨_, _, rfl, rfl⟩
  · cases h
section AMP
variable {p : Program} {l : Launch} {e : Env} {R : Room} {s : State} {m : MethodId} {args : Array Value} {below : List Frame} {meth : Method} {c : Code} {H : Heap} {locs : List Loc} {cells slots : Nat} {Q : State → Prop}
variable {cc : ByteArray} {pc : Nat} {ls : Array Slot} {ρ : Nat → Nat}
set_option maxHeartbeats 4000000 in
theorem am_p_ok {Y : am_Y} {tw : List Cond} {i : Instr} {len : Nat} {x : am_X} {L : List (Option Value)} {st st' : List Value} (hx : p.tables.exec = Jvm.exec) (hb : c.code = cc) (hts : ∀ w ∈ tw, w.before args s = true) (hown : s.vm.findClass Y.1 = some m.cls) (hY : am_kok Y tw)
    (hd : decode cc pc = .ok (i, len)) (hck : am_ck Y pc i x = true) (hL : am_L ρ L ls) (h : am_p i len x L st = some st')
    (k : W p l e R s m args below meth c H locs cells slots Q (F0 m (pc + len) ls (st'.map (am_v ρ)))) : W p l e R s m args below meth c H locs cells slots Q (F0 m pc ls (st.map (am_v ρ))) := by
  unfold am_p at h
  split at h
  · cases h
    have e := of_decide_eq_true hck
    rw [← e] at k
    exact lv_iconst hx hb hd rfl k
  · cases h
    have e := of_decide_eq_true hck
    rw [← e] at k
    exact lv_bipush hx hb hd rfl k
  · cases h
    have e := of_decide_eq_true hck
    rw [← e] at k
    exact lv_sipush hx hb hd rfl k
  · cases h
    have e := of_decide_eq_true hck
    rw [← e] at k
    exact lv_lconst hx hb hd rfl k
  · cases h
    obtain ⟨v, hv, hm⟩ := am_ck_ldc hck
    rw [hv] at k
    exact lv_ldc hx hb hown (hts _ (hY _ hm)) hd k
  · cases h
    obtain ⟨v, hv, hm⟩ := am_ck_ldc2 hck
    rw [hv] at k
    exact lv_ldc2 hx hb hown (hts _ (hY _ hm)) hd k
  · obtain ⟨v, hv, rfl⟩ := am_ldi_ok h
    exact lv_iload hx hb hd (hL.at hv) k
  · obtain ⟨v, hv, rfl⟩ := am_ldi_ok h
    exact lv_iload_n hx hb hd rfl (hL.at hv) k
  · obtain ⟨v, hv, rfl⟩ := am_ldl_ok h
    exact lv_lload hx hb hd (hL.at hv) k
  · obtain ⟨v, hv, rfl⟩ := am_ldl_ok h
    exact lv_lload_n hx hb hd rfl (hL.at hv) k
  · obtain ⟨v, hv, rfl⟩ := am_lda_ok h
    exact lv_aload hx hb hd (hL.at hv) k
  · obtain ⟨v, hv, rfl⟩ := am_lda_ok h
    exact lv_aload_n hx hb hd rfl (hL.at hv) k
  · obtain ⟨a, b, r, rfl, rfl⟩ := am_ii_ok h
    exact lv_iadd hx hb hd k
  · obtain ⟨a, b, r, rfl, rfl⟩ := am_ii_ok h
    exact lv_isub hx hb hd k
  · obtain ⟨a, b, r, rfl, rfl⟩ := am_ii_ok h
    exact lv_imul hx hb hd k
  · obtain ⟨a, b, r, rfl, rfl⟩ := am_ii_ok h
    exact lv_iand hx hb hd k
  · obtain ⟨a, b, r, rfl, rfl⟩ := am_ii_ok h
    exact lv_ior hx hb hd k
  · obtain ⟨a, b, r, rfl, rfl⟩ := am_ii_ok h
    exact lv_ixor hx hb hd k
  · obtain ⟨a, b, r, rfl, rfl⟩ := am_ii_ok h
    exact lv_ishl hx hb hd k
  · obtain ⟨a, b, r, rfl, rfl⟩ := am_ii_ok h
    exact lv_ishr hx hb hd k
  · obtain ⟨a, b, r, rfl, rfl⟩ := am_ii_ok h
    exact lv_iushr hx hb hd rfl k
  · obtain ⟨a, r, rfl, rfl⟩ := am_i1_ok h
    exact lv_ineg hx hb hd k
  · obtain ⟨a, r, rfl, rfl⟩ := am_i1_ok h
    exact lv_i2b hx hb hd rfl k
  · obtain ⟨a, r, rfl, rfl⟩ := am_i1_ok h
    exact lv_i2c hx hb hd rfl k
  · obtain ⟨a, b, r, rfl, rfl⟩ := am_ll_ok h
    exact lv_ladd hx hb hd k
  · obtain ⟨a, b, r, rfl, rfl⟩ := am_ll_ok h
    exact lv_lsub hx hb hd k
  · obtain ⟨a, b, r, rfl, rfl⟩ := am_ll_ok h
    exact lv_lmul hx hb hd k
  · obtain ⟨a, b, r, rfl, rfl⟩ := am_ll_ok h
    exact lv_land hx hb hd k
  · obtain ⟨a, b, r, rfl, rfl⟩ := am_ll_ok h
    exact lv_lor hx hb hd k
  · obtain ⟨a, b, r, rfl, rfl⟩ := am_ll_ok h
    exact lv_lxor hx hb hd k
  · obtain ⟨a, b, r, rfl, rfl⟩ := am_li_ok h
    exact lv_lshl hx hb hd rfl k
  · obtain ⟨a, b, r, rfl, rfl⟩ := am_li_ok h
    exact lv_lshr hx hb hd rfl k
  · obtain ⟨a, b, r, rfl, rfl⟩ := am_li_ok h
    exact lv_lushr hx hb hd rfl k
  · split at h
    · cases h
      exact W.lcmp hx hb hd k
    · cases h
  · split at h
    · cases h
      exact lv_i2l hx hb hd rfl k
    · cases h
  · split at h
    · cases h
      exact lv_l2i hx hb hd rfl k
    · cases h
  · split at h
    · split at h
      · rename_i h1
        cases h
        exact lv_dup hx hb hd (am_c1_y h1) k
      · cases h
    · cases h
  · split at h
    · split at h
      · rename_i h1
        cases h
        exact lv_pop hx hb hd (am_c1_y h1) k
      · cases h
    · cases h
  · split at h
    · split at h
      · cases h
      · rename_i h1
        cases h
        exact lv_pop2_2 hx hb hd (am_c1_n h1) k
    · cases h
  · split at h
    · split at h
      · rename_i h1
        split at h
        · rename_i h2
          cases h
          exact lv_dup2_11 hx hb hd (am_c1_y h1) (am_c1_y h2) k
        · cases h
      · rename_i h1
        cases h
        exact lv_dup2_2 hx hb hd (am_c1_n h1) k
    · split at h
      · cases h
      · rename_i h1
        cases h
        exact lv_dup2_2 hx hb hd (am_c1_n h1) k
    · cases h
  · split at h
    · split at h
      · rename_i h1
        split at h
        · rename_i h2
          cases h
          exact lv_dup_x1 hx hb hd (am_c1_y h1) (am_c1_y h2) k
        · cases h
      · cases h
    · cases h
  · split at h
    · split at h
      · rename_i h1
        split at h
        · rename_i h2
          split at h
          · rename_i h3
            cases h
            exact lv_dup_x2 hx hb hd (am_c1_y h1) (am_c1_y h2) (am_c1_y h3) k
          · cases h
        · cases h
      · cases h
    · cases h
  · split at h
    · split at h
      · cases h
      · rename_i h1
        split at h
        · rename_i h2
          cases h
          exact lv_dup2_x1_2 hx hb hd (am_c1_n h1) (am_c1_y h2) k
        · cases h
    · cases h
  · cases h
end AMP
end
section
/-! instructions that change locals, jump, or divide: with what must hold ('am_all'), and the way chosen at each branch -/
def am_all : List Prop → Prop
  | [] => True
  | a :: r => a ∧ am_all r
def am_cy (c : ClassFile.Cond) (a b : Int32) : Prop := match c with
  | .eq => a = b
  | .ne => ¬ a = b
  | .lt => a < b
  | .ge => b ≤ a
  | .gt => b < a
  | .le => a ≤ b
def am_cn (c : ClassFile.Cond) (a b : Int32) : Prop := match c with
  | .eq => ¬ a = b
  | .ne => a = b
  | .lt => ¬ a < b
  | .ge => ¬ b ≤ a
  | .gt => ¬ b < a
  | .le => ¬ a ≤ b
def am_tg (pc : Nat) (o : Int) : Nat := ((pc : Int) + o).toNat
abbrev am_G : Type := List Prop × List Nat × Nat × List (Option Value) × List Value
def am_sv1 (d : List Nat) (pc : Nat) (L : List (Option Value)) (k : Nat) (v : Value) (r : List Value) : Option am_G := match am_st1 L k v with
  | some L' => some ([], d, pc, L', r)
  | none => none
def am_sv2 (d : List Nat) (pc : Nat) (L : List (Option Value)) (k : Nat) (v : Value) (r : List Value) : Option am_G := match am_st2 L k v with
  | some L' => some ([], d, pc, L', r)
  | none => none
def am_q (i : Instr) (len pc : Nat) (x : am_X) (d : List Nat) (L : List (Option Value)) (st : List Value) : Option am_G := match i, len with
  | .istore k, 2 => match st with
    | .int v :: r => am_sv1 d (pc + 2) L k (.int v) r
    | _ => none
  | .istore_n k, 1 => match st with
    | .int v :: r => am_sv1 d (pc + 1) L k (.int v) r
    | _ => none
  | .lstore k, 2 => match st with
    | .long v :: r => am_sv2 d (pc + 2) L k (.long v) r
    | _ => none
  | .lstore_n k, 1 => match st with
    | .long v :: r => am_sv2 d (pc + 1) L k (.long v) r
    | _ => none
  | .astore k, 2 => match st with
    | .ref v :: r => am_sv1 d (pc + 2) L k (.ref v) r
    | _ => none
  | .astore_n k, 1 => match st with
    | .ref v :: r => am_sv1 d (pc + 1) L k (.ref v) r
    | _ => none
  | .iinc k _, 3 => match L[k]?, x.1 with
    | some (some (.int v)), .int u => am_sv1 d (pc + 3) L k (.int (v + u)) st
    | _, _ => none
  | .idiv, 1 => match st with
    | .int b :: .int a :: r => some ([¬ b = 0], d, pc + 1, L, .int (a / b) :: r)
    | _ => none
  | .irem, 1 => match st with
    | .int b :: .int a :: r => some ([¬ b = 0], d, pc + 1, L, .int (a - a / b * b) :: r)
    | _ => none
  | .goto _, 3 => some ([], d, x.2.1, L, st)
  | .ifCond cd _, 3 => match st, d with
    | .int a :: r, 0 :: d' => some ([am_cn cd a 0], d', pc + 3, L, r)
    | .int a :: r, _ :: d' => some ([am_cy cd a 0], d', x.2.1, L, r)
    | _, _ => none
  | .if_icmp cd _, 3 => match st, d with
    | .int b :: .int a :: r, 0 :: d' => some ([am_cn cd a b], d', pc + 3, L, r)
    | .int b :: .int a :: r, _ :: d' => some ([am_cy cd a b], d', x.2.1, L, r)
    | _, _ => none
  | .lookupswitch df ps, _ => match st, d with
    | .int a :: r, j :: d' => match ps.toList[j]? with
      | some q => some ([Op.lookupswitch.offset ps.toList df a.toInt = q.2, (pc : Int) + q.2 = (am_tg pc q.2 : Int)], d', am_tg pc q.2, L, r)
      | none => some ([Op.lookupswitch.offset ps.toList df a.toInt = df, (pc : Int) + df = (am_tg pc df : Int)], d', am_tg pc df, L, r)
    | _, _ => none
  | .tableswitch df lo hi os, _ => match st, d with
    | .int a :: r, j :: d' => match os[j]? with
      | some o => some ([a.toInt = lo + (j : Int), lo + (j : Int) ≤ hi, (pc : Int) + o = (am_tg pc o : Int)], d', am_tg pc o, L, r)
      | none => some ([a.toInt < lo ∨ hi < a.toInt, (pc : Int) + df = (am_tg pc df : Int)], d', am_tg pc df, L, r)
    | _, _ => none
  | _, _ => none
theorem am_sv1_ok {d : List Nat} {pc : Nat} {L : List (Option Value)} {k : Nat} {v : Value} {r : List Value} {ob : List Prop} {d' : List Nat} {pc' : Nat} {L' : List (Option Value)} {st' : List Value} (h : am_sv1 d pc L k v r = some (ob, d', pc', L', st')) : am_st1 L k v = some L' ∧ pc' = pc ∧ st' = r := by
  unfold am_sv1 at h
  split at h
  · rename_i L2 h2
    cases h
    exact ⟨h2, rfl, rfl⟩
  · cases h
theorem am_sv2_ok {d : List Nat} {pc : Nat} {L : List (Option Value)} {k : Nat} {v : Value} {r : List Value} {ob : List Prop} {d' : List Nat} {pc' : Nat} {L' : List (Option Value)} {st' : List Value} (h : am_sv2 d pc L k v r = some (ob, d', pc', L', st')) : am_st2 L k v = some L' ∧ pc' = pc ∧ st' = r := by
  unfold am_sv2 at h
  split at h
  · rename_i L2 h2
    cases h
    exact ⟨h2, rfl, rfl⟩
  · cases h
theorem am_ck_iinc {Y : am_Y} {pc k : Nat} {n : Int} {x : am_X} {u : Int32} (h : am_ck Y pc (.iinc k n) x = true) (hu : x.1 = .int u) : Int32.ofInt n = u := by
  have e := of_decide_eq_true (show decide (Value.int (Int32.ofInt n) = x.1) = true from h)
  rw [hu] at e
  exact Value.int.inj e
section AMQ
variable {p : Program} {l : Launch} {e : Env} {R : Room} {s : State} {m : MethodId} {args : Array Value} {below : List Frame} {meth : Method} {c : Code} {H : Heap} {locs : List Loc} {cells slots : Nat} {Q : State → Prop}
variable {cc : ByteArray} {pc : Nat} {ls : Array Slot} {ρ : Nat → Nat}
set_option maxHeartbeats 4000000 in
theorem am_q_ok {Y : am_Y} {i : Instr} {len : Nat} {x : am_X} {d d' : List Nat} {ob : List Prop} {pc' : Nat} {L L' : List (Option Value)} {st st' : List Value} (hx : p.tables.exec = Jvm.exec) (hb : c.code = cc)
    (hd : decode cc pc = .ok (i, len)) (hck : am_ck Y pc i x = true) (hL : am_L ρ L ls) (h : am_q i len pc x d L st = some (ob, d', pc', L', st')) (ho : am_all ob)
    (k : ∀ ls', am_L ρ L' ls' → L'.length = L.length → W p l e R s m args below meth c H locs cells slots Q (F0 m pc' ls' (st'.map (am_v ρ)))) : W p l e R s m args below meth c H locs cells slots Q (F0 m pc ls (st.map (am_v ρ))) := by
  unfold am_q at h
  split at h
  · split at h
    · obtain ⟨h1, rfl, rfl⟩ := am_sv1_ok h
      obtain ⟨h2, h9, h3⟩ := am_st1_ok (ρ := ρ) h1
      exact lv_istore hx hb hd hL.has h2 rfl (fun ls' hl => k ls' (h3 ls' hl) h9)
    · cases h
  · split at h
    · obtain ⟨h1, rfl, rfl⟩ := am_sv1_ok h
      obtain ⟨h2, h9, h3⟩ := am_st1_ok (ρ := ρ) h1
      exact lv_istore_n hx hb hd rfl hL.has h2 rfl (fun ls' hl => k ls' (h3 ls' hl) h9)
    · cases h
  · split at h
    · obtain ⟨h1, rfl, rfl⟩ := am_sv2_ok h
      obtain ⟨h2, h9, h3⟩ := am_st2_ok (ρ := ρ) h1
      exact lv_lstore hx hb hd hL.has h2 rfl (fun ls' hl => k ls' (h3 ls' hl) h9)
    · cases h
  · split at h
    · obtain ⟨h1, rfl, rfl⟩ := am_sv2_ok h
      obtain ⟨h2, h9, h3⟩ := am_st2_ok (ρ := ρ) h1
      exact lv_lstore_n hx hb hd rfl hL.has h2 rfl (fun ls' hl => k ls' (h3 ls' hl) h9)
    · cases h
  · split at h
    · obtain ⟨h1, rfl, rfl⟩ := am_sv1_ok h
      obtain ⟨h2, h9, h3⟩ := am_st1_ok (ρ := ρ) h1
      exact lv_astore hx hb hd hL.has h2 rfl (fun ls' hl => k ls' (h3 ls' hl) h9)
    · cases h
  · split at h
    · obtain ⟨h1, rfl, rfl⟩ := am_sv1_ok h
      obtain ⟨h2, h9, h3⟩ := am_st1_ok (ρ := ρ) h1
      exact lv_astore_n hx hb hd rfl hL.has h2 rfl (fun ls' hl => k ls' (h3 ls' hl) h9)
    · cases h
  · split at h
    · rename_i v u hv hu
      obtain ⟨h1, rfl, rfl⟩ := am_sv1_ok h
      obtain ⟨h2, h9, h3⟩ := am_st1_ok (ρ := ρ) h1
      have hm := am_as_of (ρ := ρ) _ 0 _ _ hv
      obtain ⟨q, hq⟩ := List.getElem?_of_mem hm
      rw [Nat.zero_add] at hq
      exact lv_iinc hx hb hd hL.has hq (by rw [am_ck_iinc hck hu]) h2 rfl (fun ls' hl => k ls' (h3 ls' hl) h9)
    · cases h
  · split at h
    · cases h
      exact lv_idiv hx hb hd ho.1 (k ls hL rfl)
    · cases h
  · split at h
    · cases h
      exact lv_irem hx hb hd ho.1 (k ls hL rfl)
    · cases h
  · cases h
    exact lv_goto hx hb hd (of_decide_eq_true hck) (k ls hL rfl)
  · rename_i cd o
    have ht := of_decide_eq_true (show decide ((pc : Int) + o = (x.2.1 : Int)) = true from hck)
    split at h
    · cases h
      have h0 := ho.1
      cases cd
      · exact lv_if_eq hx hb hd ht (fun q => (h0 q : False).elim) (fun _ => k ls hL rfl)
      · exact lv_if_ne hx hb hd ht (fun q => (q h0 : False).elim) (fun _ => k ls hL rfl)
      · exact lv_if_lt hx hb hd ht (fun q => (h0 q : False).elim) (fun _ => k ls hL rfl)
      · exact lv_if_ge hx hb hd ht (fun q => (h0 q : False).elim) (fun _ => k ls hL rfl)
      · exact lv_if_gt hx hb hd ht (fun q => (h0 q : False).elim) (fun _ => k ls hL rfl)
      · exact lv_if_le hx hb hd ht (fun q => (h0 q : False).elim) (fun _ => k ls hL rfl)
    · cases h
      have h0 := ho.1
      cases cd
      · exact lv_if_eq hx hb hd ht (fun _ => k ls hL rfl) (fun q => (q h0 : False).elim)
      · exact lv_if_ne hx hb hd ht (fun _ => k ls hL rfl) (fun q => (h0 q : False).elim)
      · exact lv_if_lt hx hb hd ht (fun _ => k ls hL rfl) (fun q => (q h0 : False).elim)
      · exact lv_if_ge hx hb hd ht (fun _ => k ls hL rfl) (fun q => (q h0 : False).elim)
      · exact lv_if_gt hx hb hd ht (fun _ => k ls hL rfl) (fun q => (q h0 : False).elim)
      · exact lv_if_le hx hb hd ht (fun _ => k ls hL rfl) (fun q => (q h0 : False).elim)
    · cases h
  · rename_i cd o
    have ht := of_decide_eq_true (show decide ((pc : Int) + o = (x.2.1 : Int)) = true from hck)
    split at h
    · cases h
      have h0 := ho.1
      cases cd
      · exact lv_icmp_eq hx hb hd ht (fun q => (h0 q : False).elim) (fun _ => k ls hL rfl)
      · exact lv_icmp_ne hx hb hd ht (fun q => (q h0 : False).elim) (fun _ => k ls hL rfl)
      · exact lv_icmp_lt hx hb hd ht (fun q => (h0 q : False).elim) (fun _ => k ls hL rfl)
      · exact lv_icmp_ge hx hb hd ht (fun q => (h0 q : False).elim) (fun _ => k ls hL rfl)
      · exact lv_icmp_gt hx hb hd ht (fun q => (h0 q : False).elim) (fun _ => k ls hL rfl)
      · exact lv_icmp_le hx hb hd ht (fun q => (h0 q : False).elim) (fun _ => k ls hL rfl)
    · cases h
      have h0 := ho.1
      cases cd
      · exact lv_icmp_eq hx hb hd ht (fun _ => k ls hL rfl) (fun q => (q h0 : False).elim)
      · exact lv_icmp_ne hx hb hd ht (fun _ => k ls hL rfl) (fun q => (h0 q : False).elim)
      · exact lv_icmp_lt hx hb hd ht (fun _ => k ls hL rfl) (fun q => (q h0 : False).elim)
      · exact lv_icmp_ge hx hb hd ht (fun _ => k ls hL rfl) (fun q => (q h0 : False).elim)
      · exact lv_icmp_gt hx hb hd ht (fun _ => k ls hL rfl) (fun q => (q h0 : False).elim)
      · exact lv_icmp_le hx hb hd ht (fun _ => k ls hL rfl) (fun q => (q h0 : False).elim)
    · cases h
  · split at h
    · split at h
      · cases h
        exact lv_lookup hx hb hd hck ho.1 ho.2.1 (k ls hL rfl)
      · cases h
        exact lv_lookup hx hb hd hck ho.1 ho.2.1 (k ls hL rfl)
    · cases h
  · split at h
    · split at h
      · rename_i o' ho'
        cases h
        have h0 := ho.1
        have h9 := ho.2.1
        refine lv_tableIn hx hb hd (by omega) (by omega) (off := o') ?_ ho.2.2.1 (k ls hL rfl)
        rw [h0]
        rw [← ho']
        congr 1
        omega
      · cases h
        exact lv_tableOut hx hb hd ho.1 ho.2.1 (k ls hL rfl)
    · cases h
  · cases h
end AMQ
end
section
/-! instructions that read and write cells -/
def am_kk (kd : am_K) (kind : Nat) : Bool := match kd with
  | none => kind == 0 || kind == 3
  | some none => kind == 1
  | some (some _) => kind == 2
def am_has (sh : Nat → am_C) (Nw k ci j kind : Nat) : Bool := decide (k < Nw) && match sh k with
  | .inl _ => false
  | .inr o => decide (o.1 = ci) && match o.2[j]? with
    | some kd => am_kk kd kind
    | none => false
def am_rf (sh : Nat → am_C) (k j : Nat) : Nat := match sh k with
  | .inl _ => 0
  | .inr o => match o.2[j]? with
    | some (some (some q)) => q
    | _ => 0
def am_tl : List FieldType := [.int, .long, .byte, .boolean]
def am_tys (ca : Nat → ClassId) : List (ClassId × FieldType) := [(ca 0, .int), (ca 1, .long), (ca 2, .byte), (ca 3, .boolean)]
def am_arr (sh : Nat → am_C) (Nt k : Nat) (ty : FieldType) : Bool := decide (k < Nt) && match sh k with
  | .inl a => decide (a.2.1 = ty) && decide (am_tl[a.1]? = some ty)
  | .inr _ => false
def am_len (sh : Nat → am_C) (k : Nat) : Nat := match sh k with
  | .inl a => a.2.2
  | .inr _ => 0
def am_gv (sh : Nat → am_C) (σ : am_S) (k j kind : Nat) : Value := match kind with
  | 0 => .int (σ.1.1 k j)
  | 1 => .long (σ.1.2 k j)
  | 2 => .ref (am_rf sh k j)
  | _ => .int (σ.1.1 k j)
def am_fit (kind : Nat) (v : Int32) : Prop := match kind with
  | 0 => True
  | 3 => v = 0 ∨ v = 1
  | _ => False
def am_bt (n : Nat) : FieldType := if n = 3 then .boolean else .byte
abbrev am_J : Type := List Prop × List Value × am_S
def am_ri (Nw : Nat) (cst : Nat → Nat → Int32) (σ : am_S) (k j : Nat) : Int32 := if k < Nw then σ.2.1 k j else cst k j
def am_h (sh : Nat → am_C) (Nw Nt : Nat) (cst : Nat → Nat → Int32) (i : Instr) (len : Nat) (x : am_X) (st : List Value) (σ : am_S) : Option am_J := match i, len with
  | .getfield _, 3 => match st with
    | .ref k :: r => some ([am_has sh Nw k x.2.1 x.2.2.1 x.2.2.2 = true], am_gv sh σ k x.2.2.1 x.2.2.2 :: r, σ)
    | _ => none
  | .putfield _, 3 => match st with
    | .int v :: .ref k :: r => some ([am_has sh Nw k x.2.1 x.2.2.1 x.2.2.2 = true, am_fit x.2.2.2 v], r, am_fi σ k x.2.2.1 v)
    | .long v :: .ref k :: r => some ([am_has sh Nw k x.2.1 x.2.2.1 x.2.2.2 = true, x.2.2.2 = 1], r, am_fl σ k x.2.2.1 v)
    | _ => none
  | .arraylength, 1 => match st with
    | .ref k :: r => some ([am_arr sh Nt k (am_tl.getD x.2.1 .int) = true], .int (Int32.ofNat (am_len sh k)) :: r, σ)
    | _ => none
  | .getstatic _, 3 => some ([], x.1 :: st, σ)
  | .iaload, 1 => match st with
    | .int a :: .ref k :: r => some ([am_arr sh Nt k .int = true, vp_in a (am_len sh k)], .int (am_ri Nw cst σ k a.toNatClampNeg) :: r, σ)
    | _ => none
  | .baload, 1 => match st with
    | .int a :: .ref k :: r => some ([am_arr sh Nw k (am_bt x.2.1) = true, vp_in a (am_len sh k)], .int (σ.2.1 k a.toNatClampNeg) :: r, σ)
    | _ => none
  | .laload, 1 => match st with
    | .int a :: .ref k :: r => some ([am_arr sh Nw k .long = true, vp_in a (am_len sh k)], .long (σ.2.2 k a.toNatClampNeg) :: r, σ)
    | _ => none
  | .iastore, 1 => match st with
    | .int v :: .int a :: .ref k :: r => some ([am_arr sh Nw k .int = true, vp_in a (am_len sh k)], r, am_ai σ k a.toNatClampNeg v)
    | _ => none
  | .bastore, 1 => match st with
    | .int v :: .int a :: .ref k :: r => some ([am_arr sh Nw k (am_bt x.2.1) = true, vp_in a (am_len sh k)], r, am_ai σ k a.toNatClampNeg (vp_nar (am_bt x.2.1) v))
    | _ => none
  | .lastore, 1 => match st with
    | .long v :: .int a :: .ref k :: r => some ([am_arr sh Nw k .long = true, vp_in a (am_len sh k)], r, am_al σ k a.toNatClampNeg v)
    | _ => none
  | _, _ => none
theorem am_has_ok {sh : Nat → am_C} {Nw k ci j kind : Nat} (h : am_has sh Nw k ci j kind = true) : k < Nw ∧ ∃ (ks : List am_K) (kd : am_K), sh k = .inr (ci, ks) ∧ ks[j]? = some kd ∧ am_kk kd kind = true := by
  unfold am_has at h
  rw [Bool.and_eq_true] at h
  obtain ⟨h1, h2⟩ := h
  refine ⟨of_decide_eq_true h1, ?_⟩
  split at h2
  · cases h2
  · rename_i o ho
    rw [Bool.and_eq_true] at h2
    obtain ⟨h3, h4⟩ := h2
    split at h4
    · rename_i kd hkd
      have e := of_decide_eq_true h3
      subst e
      exact ⟨o.2, kd, ho, hkd, h4⟩
    · cases h4
theorem am_arr_ok {sh : Nat → am_C} {Nt k : Nat} {ty : FieldType} (h : am_arr sh Nt k ty = true) : k < Nt ∧ ∃ t0 : Nat, sh k = .inl (t0, ty, am_len sh k) ∧ am_tl[t0]? = some ty := by
  unfold am_arr at h
  rw [Bool.and_eq_true] at h
  obtain ⟨h1, h2⟩ := h
  refine ⟨of_decide_eq_true h1, ?_⟩
  split at h2
  · rename_i a ha
    rw [Bool.and_eq_true] at h2
    obtain ⟨h3, h4⟩ := h2
    have e := of_decide_eq_true h3
    have e4 := of_decide_eq_true h4
    subst e
    exact ⟨a.1, by rw [ha]; simp [am_len, ha], e4⟩
  · cases h2
theorem am_tys_at {ca : Nat → ClassId} {t0 : Nat} {ty : FieldType} (h : am_tl[t0]? = some ty) : (am_tys ca)[t0]? = some (ca t0, ty) := by
  match t0, h with
  | 0, h => cases h; rfl
  | 1, h => cases h; rfl
  | 2, h => cases h; rfl
  | 3, h => cases h; rfl
  | n + 4, h => simp [am_tl] at h
theorem am_gv_ok {sh : Nat → am_C} {ρ : Nat → Nat} {σ : am_S} {k ci j kind : Nat} {ks : List am_K} {kd : am_K} (h1 : sh k = .inr (ci, ks)) (h2 : ks[j]? = some kd) (h3 : am_kk kd kind = true) : am_v ρ (am_gv sh σ k j kind) = am_fv ρ σ k j kd := by
  cases kd with
  | none =>
    have h : kind = 0 ∨ kind = 3 := by simpa [am_kk] using h3
    rcases h with rfl | rfl <;> rfl
  | some q =>
    cases q with
    | none =>
      have h : kind = 1 := by simpa [am_kk] using h3
      subst h
      rfl
    | some q =>
      have h : kind = 2 := by simpa [am_kk] using h3
      subst h
      simp [am_gv, am_rf, h1, h2, am_fv, am_v]
def am_R (cl : List vw_C) (sh : Nat → am_C) (Nw : Nat) (D : va_G) (ca : Nat → ClassId) (ρ : Nat → Nat) (A : Nat → Prop) (s : State) (σ : am_S) (H : Heap) (locs : List Loc) : Prop :=
  va_P D cl (am_ws sh ca ρ Nw σ) H ∧ va_D A (am_ws sh ca ρ Nw σ) ∧ va_S A s.heap H locs
/-! the classes: their fields' words among the words, their names apart, their types -/
def am_cok (cl : List vw_C) (tw : List Cond) : Prop := ∀ (ci : Nat) (q : vw_C), cl[ci]? = some q → (∀ w ∈ u_ws q.1 q.2.1 q.2.2, w ∈ tw) ∧ (∀ a, a < q.2.2 → ∀ b, b < q.2.2 → a ≠ b → (q.2.1 a).2.1 ≠ (q.2.1 b).2.1) ∧ ∃ ty : Nat → FieldType, ∀ k, k < q.2.2 → parseFieldDescriptor (q.2.1 k).2.2.1 = some (ty k)
def am_kd (kind : Nat) (d : String) : Prop := match kind with
  | 0 => d = "I"
  | 1 => d = "J"
  | 2 => True
  | 3 => d = "Z"
  | _ => False
def am_fok (Y : am_Y) (cl : List vw_C) (tw nw : List Cond) (host : String) : Prop := ∀ q ∈ Y.2.2.1, ∃ r : vw_C, cl[q.2.1]? = some r ∧ q.2.2.1 < r.2.2 ∧ (r.2.1 q.2.2.1).1 = r.1 ∧ (q.2.2.2.1 ≠ 2 → (r.2.1 q.2.2.1).2.2.2 = false) ∧ am_kd q.2.2.2.1 (r.2.1 q.2.2.1).2.2.1 ∧
  (q.2.2.2.2 = true → Cond.fieldLinkNest Y.1 q.1 r.1 (r.2.1 q.2.2.1).2.1 (r.2.1 q.2.2.1).2.2.1 host ∈ nw) ∧ (q.2.2.2.2 = false → Cond.fieldLink Y.1 q.1 r.1 (r.2.1 q.2.2.1).2.1 (r.2.1 q.2.2.1).2.2.1 ∈ tw)
theorem am_ck_get {Y : am_Y} {pc n : Nat} {x : am_X} (h : am_ck Y pc (.getfield n) x = true) : ∃ b, (n, x.2.1, x.2.2.1, x.2.2.2, b) ∈ Y.2.2.1 := by
  have h : (decide ((n, x.2.1, x.2.2.1, x.2.2.2, true) ∈ Y.2.2.1) || decide ((n, x.2.1, x.2.2.1, x.2.2.2, false) ∈ Y.2.2.1)) = true := h
  rw [Bool.or_eq_true] at h
  rcases h with h | h
  · exact ⟨true, of_decide_eq_true h⟩
  · exact ⟨false, of_decide_eq_true h⟩
theorem am_ck_put {Y : am_Y} {pc n : Nat} {x : am_X} (h : am_ck Y pc (.putfield n) x = true) : ∃ b, (n, x.2.1, x.2.2.1, x.2.2.2, b) ∈ Y.2.2.1 := am_ck_get (pc := pc) (n := n) (x := x) h
end
section
/-! static arrays: the cell's number, class, name, descriptor -/
def am_sok (Y : am_Y) (zs : List (Nat × String × String × String)) (tw nw : List Cond) (host : String) : Prop := ∀ q ∈ Y.2.2.2, ∃ r : Nat × String × String × String, zs[q.2.2.1]? = some r ∧ r.1 = q.2.1 ∧
  (q.2.2.2 = true → Cond.fieldLinkNest Y.1 q.1 r.2.1 r.2.2.1 r.2.2.2 host ∈ nw) ∧ (q.2.2.2 = false → Cond.fieldLink Y.1 q.1 r.2.1 r.2.2.1 r.2.2.2 ∈ tw)
theorem am_ck_sta {Y : am_Y} {pc n : Nat} {x : am_X} (h : am_ck Y pc (.getstatic n) x = true) : (∃ b, (n, x.2.1, x.2.2.1, b) ∈ Y.2.2.2) ∧ x.1 = .ref x.2.1 := by
  have h : ((decide ((n, x.2.1, x.2.2.1, true) ∈ Y.2.2.2) || decide ((n, x.2.1, x.2.2.1, false) ∈ Y.2.2.2)) && decide (x.1 = .ref x.2.1)) = true := h
  rw [Bool.and_eq_true, Bool.or_eq_true] at h
  refine ⟨?_, of_decide_eq_true h.2⟩
  rcases h.1 with h | h
  · exact ⟨true, of_decide_eq_true h⟩
  · exact ⟨false, of_decide_eq_true h⟩
theorem am_cell_o {sh : Nat → am_C} {ca : Nat → ClassId} {ρ : Nat → Nat} {σ : am_S} {k ci : Nat} {ks : List am_K} (h : sh k = .inr (ci, ks)) : am_cell sh ca ρ σ k = .inr (ci, am_flds ρ σ k 0 ks) := by
  simp [am_cell, h]
theorem am_cell_a {sh : Nat → am_C} {ca : Nat → ClassId} {ρ : Nat → Nat} {σ : am_S} {k t0 n : Nat} {ty : FieldType} (h : sh k = .inl (t0, ty, n)) : am_cell sh ca ρ σ k = .inl (ca t0, n, am_con σ ty k) := by
  simp [am_cell, h]
section AMH
variable {p : Program} {l : Launch} {e : Env} {R : Room} {s : State} {m : MethodId} {args : Array Value} {below : List Frame} {meth : Method} {c : Code} {H : Heap} {locs : List Loc} {cells slots : Nat} {Q : State → Prop}
variable {cc : ByteArray} {pc : Nat} {ls : Array Slot} {ρ : Nat → Nat} {cl : List vw_C} {sh : Nat → am_C} {Nw Nt : Nat} {D : va_G} {ca : Nat → ClassId} {A : Nat → Prop} {cst : Nat → Nat → Int32}
theorem am_R_fi {σ : am_S} {H1 : Heap} {locs1 : List Loc} {k j ci : Nat} {v : Int32} {ks : List am_K} (h1 : sh k = .inr (ci, ks)) (h2 : ks[j]? = some none)
    (hP : va_P D cl ((am_ws sh ca ρ Nw σ).set k (ρ k, .inr (ci, (am_flds ρ σ k 0 ks).set j (.int v)))) H1) (hD : va_D A ((am_ws sh ca ρ Nw σ).set k (ρ k, .inr (ci, (am_flds ρ σ k 0 ks).set j (.int v))))) (hS : va_S A s.heap H1 locs1) : am_R cl sh Nw D ca ρ A s (am_fi σ k j v) H1 locs1 := by
  have e : (am_ws sh ca ρ Nw σ).set k (ρ k, .inr (ci, (am_flds ρ σ k 0 ks).set j (.int v))) = am_ws sh ca ρ Nw (am_fi σ k j v) := by
    refine am_ws_set ?_ (fun q hq => am_cell_congr (fun b => by simp [am_fi, hq]) (fun b => rfl) rfl rfl)
    rw [am_cell_o h1, am_flds_seti ks 0 j h2, Nat.zero_add]
  rw [e] at hP hD
  exact ⟨hP, hD, hS⟩
theorem am_R_fl {σ : am_S} {H1 : Heap} {locs1 : List Loc} {k j ci : Nat} {v : Int64} {ks : List am_K} (h1 : sh k = .inr (ci, ks)) (h2 : ks[j]? = some (some none))
    (hP : va_P D cl ((am_ws sh ca ρ Nw σ).set k (ρ k, .inr (ci, (am_flds ρ σ k 0 ks).set j (.long v)))) H1) (hD : va_D A ((am_ws sh ca ρ Nw σ).set k (ρ k, .inr (ci, (am_flds ρ σ k 0 ks).set j (.long v))))) (hS : va_S A s.heap H1 locs1) : am_R cl sh Nw D ca ρ A s (am_fl σ k j v) H1 locs1 := by
  have e : (am_ws sh ca ρ Nw σ).set k (ρ k, .inr (ci, (am_flds ρ σ k 0 ks).set j (.long v))) = am_ws sh ca ρ Nw (am_fl σ k j v) := by
    refine am_ws_set ?_ (fun q hq => am_cell_congr (fun b => rfl) (fun b => by simp [am_fl, hq]) rfl rfl)
    rw [am_cell_o h1, am_flds_setl ks 0 j h2, Nat.zero_add]
  rw [e] at hP hD
  exact ⟨hP, hD, hS⟩
theorem am_R_ai {σ : am_S} {H1 : Heap} {locs1 : List Loc} {k j t0 n : Nat} {v : Int32} {ty : FieldType} (h1 : sh k = .inl (t0, ty, n)) (h2 : ty ≠ .long)
    (hP : va_P D cl ((am_ws sh ca ρ Nw σ).set k (ρ k, .inl (ca t0, n, .inl (upd (σ.2.1 k) j v)))) H1) (hD : va_D A ((am_ws sh ca ρ Nw σ).set k (ρ k, .inl (ca t0, n, .inl (upd (σ.2.1 k) j v))))) (hS : va_S A s.heap H1 locs1) : am_R cl sh Nw D ca ρ A s (am_ai σ k j v) H1 locs1 := by
  have e : (am_ws sh ca ρ Nw σ).set k (ρ k, .inl (ca t0, n, .inl (upd (σ.2.1 k) j v))) = am_ws sh ca ρ Nw (am_ai σ k j v) := by
    refine am_ws_set ?_ (fun q hq => am_cell_congr (fun b => rfl) (fun b => rfl) (by simp [am_ai, hq]) rfl)
    rw [am_cell_a h1]
    unfold am_con
    cases ty <;> first | exact absurd rfl h2 | simp [am_ai]
  rw [e] at hP hD
  exact ⟨hP, hD, hS⟩
theorem am_R_al {σ : am_S} {H1 : Heap} {locs1 : List Loc} {k j t0 n : Nat} {v : Int64} (h1 : sh k = .inl (t0, .long, n))
    (hP : va_P D cl ((am_ws sh ca ρ Nw σ).set k (ρ k, .inl (ca t0, n, .inr (.inl (vp_updL (σ.2.2 k) j v))))) H1) (hD : va_D A ((am_ws sh ca ρ Nw σ).set k (ρ k, .inl (ca t0, n, .inr (.inl (vp_updL (σ.2.2 k) j v)))))) (hS : va_S A s.heap H1 locs1) : am_R cl sh Nw D ca ρ A s (am_al σ k j v) H1 locs1 := by
  have e : (am_ws sh ca ρ Nw σ).set k (ρ k, .inl (ca t0, n, .inr (.inl (vp_updL (σ.2.2 k) j v)))) = am_ws sh ca ρ Nw (am_al σ k j v) := by
    refine am_ws_set ?_ (fun q hq => am_cell_congr (fun b => rfl) (fun b => rfl) rfl (by simp [am_al, hq]))
    rw [am_cell_a h1]
    simp [am_con, am_al]
  rw [e] at hP hD
  exact ⟨hP, hD, hS⟩
set_option maxHeartbeats 8000000 in
theorem am_h_ok {Y : am_Y} {tw nw : List Cond} {host : String} {zs : List (Nat × String × String × String)} {i : Instr} {len : Nat} {x : am_X} {st st' : List Value} {ob : List Prop} {σ σ' : am_S} (hx : p.tables.exec = Jvm.exec) (hb : c.code = cc) (hts : ∀ w ∈ tw, w.before args s = true) (hN : ∀ w ∈ nw, va_Nw w s) (hown : s.vm.findClass Y.1 = some m.cls)
    (hK : va_K D cl (am_tys ca) s) (hC : am_cok cl tw) (hF : am_fok Y cl tw nw host) (hZ : am_sok Y zs tw nw host) (hz : ∀ q ∈ zs, va_Z q.2.1 q.2.2.1 q.2.2.2 (.ref (ρ q.1)) A s s.heap)
    (hd : decode cc pc = .ok (i, len)) (hck : am_ck Y pc i x = true) (hT : ∀ k, Nw ≤ k → k < Nt → va_T .int (ρ k) (am_len sh k) (fun j => .int (cst k j)) A s s.heap) (h : am_h sh Nw Nt cst i len x st σ = some (ob, st', σ')) (ho : am_all ob) (hR : am_R cl sh Nw D ca ρ A s σ H locs)
    (k : ∀ (H1 : Heap) (locs1 : List Loc), am_R cl sh Nw D ca ρ A s σ' H1 locs1 → W p l e R s m args below meth c H1 locs1 cells slots Q (F0 m (pc + len) ls (st'.map (am_v ρ)))) : W p l e R s m args below meth c H locs cells slots Q (F0 m pc ls (st.map (am_v ρ))) := by
  unfold am_h at h
  split at h
  · split at h
    · rename_i k0 r
      cases h
      obtain ⟨hk, ks, kd, h1, h2, h3⟩ := am_has_ok ho.1
      obtain ⟨b, hm⟩ := am_ck_get hck
      obtain ⟨q, g1, g2, g3, g4, g5, g6, g7⟩ := hF _ hm
      have he := am_ws_at (sh := sh) (ca := ca) (ρ := ρ) (σ := σ) hk
      rw [am_cell_o h1] at he
      have hv := am_flds_get (ρ := ρ) (σ := σ) (k := k0) ks 0 _ h2
      rw [Nat.zero_add] at hv
      have hk2 := k H locs hR
      rw [List.map_cons, am_gv_ok h1 h2 h3] at hk2
      cases b with
      | true => exact va_getN hx hb hts (hC _ _ g1).1 hown hK hR.1 k0 he g1 _ g2 (va_Nw.use rfl (hN _ (g6 rfl))) (fun z hz => by rw [g3] at hz; exact hz) hv hd hk2
      | false => exact va_get hx hb hts (hC _ _ g1).1 hown hK hR.1 k0 he g1 _ g2 (hts _ (g7 rfl)) (fun z hz => by rw [g3] at hz; exact hz) hv hd hk2
    · cases h
  · split at h
    · rename_i v k0 r
      cases h
      obtain ⟨hk, ks, kd, h1, h2, h3⟩ := am_has_ok ho.1
      have hfit := ho.2.1
      obtain ⟨b, hm⟩ := am_ck_put hck
      obtain ⟨q, g1, g2, g3, g4, g5, g6, g7⟩ := hF _ hm
      have he := am_ws_at (sh := sh) (ca := ca) (ρ := ρ) (σ := σ) hk
      rw [am_cell_o h1] at he
      have hlen : x.2.2.1 < (am_flds ρ σ k0 0 ks).length := by
        rw [am_flds_len]
        exact (List.getElem?_eq_some_iff.mp h2).1
      have hkd : kd = none := by
        cases kd with
        | none => rfl
        | some z =>
          exfalso
          cases z with
          | none =>
            have e : x.2.2.2 = 1 := by simpa [am_kk] using h3
            rw [e] at hfit
            exact hfit
          | some z =>
            have e : x.2.2.2 = 2 := by simpa [am_kk] using h3
            rw [e] at hfit
            exact hfit
      subst hkd
      obtain ⟨tyf, hty⟩ := (hC _ _ g1).2.2
      have h03 : x.2.2.2 = 0 ∨ x.2.2.2 = 3 := by simpa [am_kk] using h3
      have hn2 : x.2.2.2 ≠ 2 := by omega
      have hall : ∃ ty : FieldType, parseFieldDescriptor (q.2.1 x.2.2.1).2.2.1 = some ty ∧ narrow ty (.int v) = .int v ∧ fits ty (.int v) = true := by
        have g5 : am_kd x.2.2.2 (q.2.1 x.2.2.1).2.2.1 := g5
        rcases h03 with e | e
        · rw [e] at g5
          have g5 : (q.2.1 x.2.2.1).2.2.1 = "I" := g5
          exact ⟨.int, by rw [g5]; decide +kernel, rfl, rfl⟩
        · rw [e] at g5 hfit
          have g5 : (q.2.1 x.2.2.1).2.2.1 = "Z" := g5
          have hfit : v = 0 ∨ v = 1 := hfit
          refine ⟨.boolean, by rw [g5]; decide +kernel, ?_, ?_⟩
          · rcases hfit with rfl | rfl <;> decide +kernel
          · rcases hfit with rfl | rfl <;> decide +kernel
      obtain ⟨ty, t1, t2, t3⟩ := hall
      cases b with
      | true => exact va_putN hx hb hts (hC _ _ g1).1 tyf hty (hC _ _ g1).2.1 hown hK hR.1 hR.2.1 hR.2.2 k0 he g1 _ g2 (va_Nw.use rfl (hN _ (g6 rfl))) (fun z hz => by rw [g3] at hz; exact hz) (g4 hn2) t1 t2 t3 hlen hd (fun H1 locs1 hP hD hS => k H1 locs1 (am_R_fi h1 h2 hP hD hS))
      | false => exact va_put hx hb hts (hC _ _ g1).1 tyf hty (hC _ _ g1).2.1 hown hK hR.1 hR.2.1 hR.2.2 k0 he g1 _ g2 (hts _ (g7 rfl)) (fun z hz => by rw [g3] at hz; exact hz) (g4 hn2) t1 t2 t3 hlen hd (fun H1 locs1 hP hD hS => k H1 locs1 (am_R_fi h1 h2 hP hD hS))
    · rename_i v k0 r
      cases h
      obtain ⟨hk, ks, kd, h1, h2, h3⟩ := am_has_ok ho.1
      have hone : x.2.2.2 = 1 := ho.2.1
      obtain ⟨b, hm⟩ := am_ck_put hck
      obtain ⟨q, g1, g2, g3, g4, g5, g6, g7⟩ := hF _ hm
      have he := am_ws_at (sh := sh) (ca := ca) (ρ := ρ) (σ := σ) hk
      rw [am_cell_o h1] at he
      have hlen : x.2.2.1 < (am_flds ρ σ k0 0 ks).length := by
        rw [am_flds_len]
        exact (List.getElem?_eq_some_iff.mp h2).1
      have hkd : kd = some none := by
        rw [hone] at h3
        cases kd with
        | none => exact absurd h3 (by decide)
        | some z =>
          cases z with
          | none => rfl
          | some z => simp [am_kk] at h3
      subst hkd
      obtain ⟨tyf, hty⟩ := (hC _ _ g1).2.2
      have hn2 : x.2.2.2 ≠ 2 := by omega
      have g5 : am_kd x.2.2.2 (q.2.1 x.2.2.1).2.2.1 := g5
      rw [hone] at g5
      have g5 : (q.2.1 x.2.2.1).2.2.1 = "J" := g5
      have t1 : parseFieldDescriptor (q.2.1 x.2.2.1).2.2.1 = some .long := by rw [g5]; decide +kernel
      cases b with
      | true => exact va_putN hx hb hts (hC _ _ g1).1 tyf hty (hC _ _ g1).2.1 hown hK hR.1 hR.2.1 hR.2.2 k0 he g1 _ g2 (va_Nw.use rfl (hN _ (g6 rfl))) (fun z hz => by rw [g3] at hz; exact hz) (g4 hn2) t1 rfl rfl hlen hd (fun H1 locs1 hP hD hS => k H1 locs1 (am_R_fl h1 h2 hP hD hS))
      | false => exact va_put hx hb hts (hC _ _ g1).1 tyf hty (hC _ _ g1).2.1 hown hK hR.1 hR.2.1 hR.2.2 k0 he g1 _ g2 (hts _ (g7 rfl)) (fun z hz => by rw [g3] at hz; exact hz) (g4 hn2) t1 rfl rfl hlen hd (fun H1 locs1 hP hD hS => k H1 locs1 (am_R_fl h1 h2 hP hD hS))
    · cases h
  · split at h
    · rename_i k0 r
      cases h
      obtain ⟨hk, t0, h1, h2⟩ := am_arr_ok ho.1
      by_cases hw : k0 < Nw
      · have he := am_ws_at (sh := sh) (ca := ca) (ρ := ρ) (σ := σ) hw
        rw [am_cell_a h1] at he
        exact va_alen hx hb hK hR.1 k0 t0 he (am_tys_at h2) rfl hd (k H locs hR)
      · exact va_tlen hx hb (hT k0 (Nat.le_of_not_lt hw) hk) hR.2.2 rfl hd (k H locs hR)
    · cases h
  · cases h
    obtain ⟨⟨b, hm⟩, hx1⟩ := am_ck_sta hck
    obtain ⟨q, g1, g2, g3, g4⟩ := hZ _ hm
    have hq := hz _ (List.mem_of_getElem? g1)
    have hk2 := k H locs hR
    have g2 : q.1 = x.2.1 := g2
    rw [List.map_cons, hx1, am_v_ref, ← g2] at hk2
    cases b with
    | true => exact va_getsN hx hb hq hR.2.2 hown (va_Nw.use rfl (hN _ (g3 rfl))) (fun z hz => hz) hd hk2
    | false => exact va_gets hx hb hq hR.2.2 hown (hts _ (g4 rfl)) (fun z hz => hz) hd hk2
  · split at h
    · rename_i a k0 r
      cases h
      obtain ⟨hk, t0, h1, h2⟩ := am_arr_ok ho.1
      by_cases hw : k0 < Nw
      · have he := am_ws_at (sh := sh) (ca := ca) (ρ := ρ) (σ := σ) hw
        rw [am_cell_a h1] at he
        have hk2 := k H locs hR
        rw [show am_ri Nw cst σ k0 a.toNatClampNeg = σ.2.1 k0 a.toNatClampNeg by simp [am_ri, hw]] at hk2
        exact va_iald hx hb hK hR.1 k0 t0 he (am_tys_at h2) ho.2.1 hd hk2
      · have hk2 := k H locs hR
        rw [show am_ri Nw cst σ k0 a.toNatClampNeg = cst k0 a.toNatClampNeg by simp [am_ri, hw]] at hk2
        exact va_ti hx hb (hT k0 (Nat.le_of_not_lt hw) hk) hR.2.2 ho.2.1 rfl hd hk2
    · cases h
  · split at h
    · rename_i a k0 r
      cases h
      have h8 := ho.1
      obtain ⟨hw, t0, h1, h2⟩ := am_arr_ok h8
      have he := am_ws_at (sh := sh) (ca := ca) (ρ := ρ) (σ := σ) hw
      rw [am_cell_a h1] at he
      by_cases e3 : x.2.1 = 3
      · rw [show am_bt x.2.1 = .boolean by simp [am_bt, e3]] at he h2
        exact va_zald hx hb hK hR.1 k0 t0 he (am_tys_at h2) ho.2.1 hd (k H locs hR)
      · rw [show am_bt x.2.1 = .byte by simp [am_bt, e3]] at he h2
        exact va_bald hx hb hK hR.1 k0 t0 he (am_tys_at h2) ho.2.1 hd (k H locs hR)
    · cases h
  · split at h
    · rename_i a k0 r
      cases h
      obtain ⟨hw, t0, h1, h2⟩ := am_arr_ok ho.1
      have he := am_ws_at (sh := sh) (ca := ca) (ρ := ρ) (σ := σ) hw
      rw [am_cell_a h1] at he
      exact va_lald hx hb hK hR.1 k0 t0 he (am_tys_at h2) ho.2.1 hd (k H locs hR)
    · cases h
  · split at h
    · rename_i v a k0 r
      cases h
      obtain ⟨hw, t0, h1, h2⟩ := am_arr_ok ho.1
      have he := am_ws_at (sh := sh) (ca := ca) (ρ := ρ) (σ := σ) hw
      rw [am_cell_a h1] at he
      exact va_iast hx hb hK hR.1 hR.2.1 hR.2.2 k0 t0 he (am_tys_at h2) ho.2.1 hd (fun H1 locs1 hP hD hS => k H1 locs1 (am_R_ai h1 (by decide) hP hD hS))
    · cases h
  · split at h
    · rename_i v a k0 r
      cases h
      have h8 := ho.1
      obtain ⟨hw, t0, h1, h2⟩ := am_arr_ok h8
      have he := am_ws_at (sh := sh) (ca := ca) (ρ := ρ) (σ := σ) hw
      rw [am_cell_a h1] at he
      by_cases e3 : x.2.1 = 3
      · have e4 : am_bt x.2.1 = .boolean := by simp [am_bt, e3]
        rw [e4] at he h2 h1 k
        exact va_zast hx hb hK hR.1 hR.2.1 hR.2.2 k0 t0 he (am_tys_at h2) ho.2.1 hd (fun H1 locs1 hP hD hS => k H1 locs1 (am_R_ai h1 (by decide) hP hD hS))
      · have e4 : am_bt x.2.1 = .byte := by simp [am_bt, e3]
        rw [e4] at he h2 h1 k
        exact va_bast hx hb hK hR.1 hR.2.1 hR.2.2 k0 t0 he (am_tys_at h2) ho.2.1 hd (fun H1 locs1 hP hD hS => k H1 locs1 (am_R_ai h1 (by decide) hP hD hS))
    · cases h
  · split at h
    · rename_i v a k0 r
      cases h
      obtain ⟨hw, t0, h1, h2⟩ := am_arr_ok ho.1
      have he := am_ws_at (sh := sh) (ca := ca) (ρ := ρ) (σ := σ) hw
      rw [am_cell_a h1] at he
      exact va_last hx hb hK hR.1 hR.2.1 hR.2.2 k0 t0 he (am_tys_at h2) ho.2.1 hd (fun H1 locs1 hP hD hS => k H1 locs1 (am_R_al h1 hP hD hS))
    · cases h
  · cases h
end AMH
end
section
/-! a stretch of code, and the judgements -/
abbrev am_Sy : Type := List vw_C × (Nat → am_C) × (Nat × Nat × (Nat → Nat → Int32)) × List Cond × List Cond × String × List (Nat × String × String × String) × List (String × String × String)
abbrev am_Me : Type := MethodName × ByteArray × Nat × Option FieldType × am_Y × List (Option am_I) × Nat × Nat × Nat × Nat
def am_cl (S : am_Sy) : List vw_C := S.1
def am_sh (S : am_Sy) : Nat → am_C := S.2.1
def am_nw (S : am_Sy) : Nat := S.2.2.1.1
def am_nt (S : am_Sy) : Nat := S.2.2.1.2.1
def am_cs (S : am_Sy) : Nat → Nat → Int32 := S.2.2.1.2.2
def am_tw (S : am_Sy) : List Cond := S.2.2.2.1
def am_nn (S : am_Sy) : List Cond := S.2.2.2.2.1
def am_ho (S : am_Sy) : String := S.2.2.2.2.2.1
def am_zs (S : am_Sy) : List (Nat × String × String × String) := S.2.2.2.2.2.2.1
def am_ys (S : am_Sy) : List (String × String × String) := S.2.2.2.2.2.2.2
def am_nm (M : am_Me) : MethodName := M.1
def am_cc (M : am_Me) : ByteArray := M.2.1
def am_mx (M : am_Me) : Nat := M.2.2.1
def am_rt (M : am_Me) : Option FieldType := M.2.2.2.1
def am_yl (M : am_Me) : am_Y := M.2.2.2.2.1
def am_cd (M : am_Me) : List (Option am_I) := M.2.2.2.2.2.1
def am_rm (M : am_Me) : Room := { frames := M.2.2.2.2.2.2.1, cells := M.2.2.2.2.2.2.2.2.1, slots := M.2.2.2.2.2.2.2.2.2, locals := M.2.2.2.2.2.2.2.1 }
def am_step (S : am_Sy) (q : am_I) (d : List Nat) (f : am_F) : am_O := match am_p q.1 q.2.1 q.2.2 f.2.1 f.2.2.1 with
  | some st' => some ([], d, (f.1 + q.2.1, f.2.1, st', f.2.2.2))
  | none => match am_q q.1 q.2.1 f.1 q.2.2 d f.2.1 f.2.2.1 with
    | some g => some (g.1, g.2.1, (g.2.2.1, g.2.2.2.1, g.2.2.2.2, f.2.2.2))
    | none => match am_h (am_sh S) (am_nw S) (am_nt S) (am_cs S) q.1 q.2.1 q.2.2 f.2.2.1 f.2.2.2 with
      | some g => some (g.1, d, (f.1 + q.2.1, f.2.1, g.2.1, g.2.2))
      | none => none
def am_run (S : am_Sy) (M : am_Me) : Nat → List Nat → am_F → Option (List Prop × am_F)
  | 0, _, f => some ([], f)
  | n + 1, d, f => match (am_cd M)[f.1]? with
    | some (some q) => match am_step S q d f with
      | some g => match am_run S M n g.2.1 g.2.2 with
        | some r => some (g.1 ++ r.1, r.2)
        | none => none
      | none => none
    | _ => none
theorem am_all_app : ∀ {a b : List Prop}, am_all (a ++ b) → am_all a ∧ am_all b
  | [], _, h => ⟨trivial, h⟩
  | _ :: _, _, h => ⟨⟨h.1, (am_all_app h.2).1⟩, (am_all_app h.2).2⟩
def am_nest : Cond → Bool
  | .fieldLinkNest _ _ _ _ _ _ => true
  | .methodLinkNest _ _ _ _ => true
  | _ => false
theorem am_nest_warm {w : Cond} {s U : State} (hn : am_nest w = true) (hW : s.WarmedH U.vm) (h : va_Nw w s) : va_Nw w U := by
  cases w <;> first | exact va_Nw.warmF hW h | exact va_Nw.warmM hW h | cases hn
/-! what is known of the program once and for all -/
def am_sys (S : am_Sy) : Prop := am_cok (am_cl S) (am_tw S) ∧ (∀ w ∈ am_tw S, goodWord w = true) ∧ ∀ w ∈ am_nn S, am_nest w = true
def am_ok (S : am_Sy) (M : am_Me) : Prop := plainName (am_nm M).cls = true ∧ (am_nm M).cls = (am_yl M).1 ∧ am_kok (am_yl M) (am_tw S) ∧ am_fok (am_yl M) (am_cl S) (am_tw S) (am_nn S) (am_ho S) ∧ am_sok (am_yl M) (am_zs S) (am_tw S) (am_nn S) (am_ho S) ∧
  ∀ (pc : Nat) (q : am_I), (am_cd M)[pc]? = some (some q) → decode (am_cc M) pc = .ok (q.1, q.2.1) ∧ am_ck (am_yl M) pc q.1 q.2.2 = true
def am_X0 (S : am_Sy) (D : va_G) (ca : Nat → ClassId) (ρ : Nat → Nat) (A : Nat → Prop) (s : State) (H : Heap) : Prop := va_K D (am_cl S) (am_tys ca) s ∧ (∀ w ∈ am_nn S, va_Nw w s) ∧ (∀ q ∈ am_zs S, va_Z q.2.1 q.2.2.1 q.2.2.2 (.ref (ρ q.1)) A s H) ∧
  (∀ k, am_nw S ≤ k → k < am_nt S → va_T .int (ρ k) (am_len (am_sh S) k) (fun j => .int (am_cs S k j)) A s H) ∧ ∀ q ∈ am_ys S, ∃ v : Value, v.isRef = true ∧ va_Z q.1 q.2.1 q.2.2 v A s H
def am_Ar (S : am_Sy) (ρ : Nat → Nat) (sz : Nat) : Nat → Prop := fun q => (∃ k, k < am_nw S ∧ q = ρ k) ∨ sz ≤ q
def am_Q (S : am_Sy) (D : va_G) (ca : Nat → ClassId) (ρ : Nat → Nat) (A : Nat → Prop) (post : Option Value → am_S → Prop) : Array Value → State → Outcome → State → Prop := fun _ st oc t =>
  (∃ (r : Option Value) (σ : am_S), oc = .returned (r.map (am_v ρ)) ∧ post r σ ∧ va_P D (am_cl S) (am_ws (am_sh S) ca ρ (am_nw S) σ) t.heap) ∧ va_F A st t
abbrev am_Fn : Type := List Frame → Array Value → State → (Nat → Prop) → va_G → (Nat → ClassId) → (Nat → Nat) → State → Prop
/-- the judgement: from this configuration the machine comes to a state with F -/
def am_A (S : am_Sy) (M : am_Me) (f : am_F) (F : am_Fn) : Prop :=
  ∀ (p : Program) (l : Launch) (e : Env) (s : State) (m : MethodId) (args : Array Value) (below : List Frame) (meth : Method) (c : Code) (H : Heap) (locs : List Loc) (ls : Array Slot) (D : va_G) (ca : Nat → ClassId) (ρ : Nat → Nat) (A : Nat → Prop),
    l.stackTraces = false → p.tables.exec = Jvm.exec → c.code = am_cc M → c.maxLocals = am_mx M → c.exceptionTable.isEmpty = true → meth.sig.returnType = am_rt M → meth.locks = false → s.vm.findClass (am_yl M).1 = some m.cls → (∀ w ∈ am_tw S, w.before args s = true) → am_X0 S D ca ρ A s s.heap → (∀ q, s.heap.size ≤ q → A q) →
    am_R (am_cl S) (am_sh S) (am_nw S) D ca ρ A s f.2.2.2 H locs → am_L ρ f.2.1 ls → f.2.1.length = am_mx M →
    W p l e (am_rm M) s m args below meth c H locs 0 0 (F below args s A D ca ρ) (F0 m f.1 ls (f.2.2.1.map (am_v ρ)))
/-- it returns, with 'post' -/
def am_r (S : am_Sy) (post : Option Value → am_S → Prop) : am_Fn := fun below args s A D ca ρ => MQ below (am_Q S D ca ρ A post) args s 0 0 A
theorem am_A_step {S : am_Sy} {M : am_Me} {q : am_I} {d : List Nat} {f : am_F} {g : List Prop × List Nat × am_F} {F : am_Fn} (hS : am_sys S) (hM : am_ok S M) (hq : (am_cd M)[f.1]? = some (some q)) (h : am_step S q d f = some g) (ho : am_all g.1) (k : am_A S M g.2.2 F) : am_A S M f F := by
  obtain ⟨pc, L, st, σ⟩ := f
  intro p l e s m args below meth c H locs ls D ca ρ A hl9 hx hb hml hne hr hlk hown hts hX hA hR hL hlen
  obtain ⟨hd, hck⟩ := hM.2.2.2.2.2 pc q hq
  unfold am_step at h
  dsimp only at h
  split at h
  · rename_i st' h1
    cases h
    exact am_p_ok hx hb hts hown hM.2.2.1 hd hck hL h1 (k p l e s m args below meth c H locs ls D ca ρ A hl9 hx hb hml hne hr hlk hown hts hX hA hR hL hlen)
  · split at h
    · rename_i g1 h1
      cases h
      obtain ⟨ob, d', pc', L', st'⟩ := g1
      exact am_q_ok hx hb hd hck hL h1 ho (fun ls' hL' hl' => k p l e s m args below meth c H locs ls' D ca ρ A hl9 hx hb hml hne hr hlk hown hts hX hA hR hL' (hl'.trans hlen))
    · split at h
      · rename_i g1 h1
        cases h
        obtain ⟨ob, st', σ'⟩ := g1
        exact am_h_ok hx hb hts hX.2.1 hown hX.1 hS.1 hM.2.2.2.1 hM.2.2.2.2.1 hX.2.2.1 hd hck hX.2.2.2.1 h1 ho hR (fun H1 locs1 hR1 => k p l e s m args below meth c H1 locs1 ls D ca ρ A hl9 hx hb hml hne hr hlk hown hts hX hA hR1 hL hlen)
      · cases h
/-- a stretch of n instructions, by the ways d -/
theorem am_A_run {S : am_Sy} {M : am_Me} {F : am_Fn} (hS : am_sys S) (hM : am_ok S M) : ∀ (n : Nat) (d : List Nat) (f : am_F) {ob : List Prop} {f' : am_F}, am_run S M n d f = some (ob, f') → am_all ob → am_A S M f' F → am_A S M f F
  | 0, d, f, ob, f', h, _, k => by
    unfold am_run at h
    cases h
    exact k
  | n + 1, d, f, ob, f', h, ho, k => by
    unfold am_run at h
    split at h
    · rename_i q hq
      split at h
      · rename_i g hg
        split at h
        · rename_i r hr
          cases h
          obtain ⟨ob2, f2⟩ := r
          obtain ⟨o1, o2⟩ := am_all_app ho
          exact am_A_step hS hM hq hg o1 (am_A_run hS hM n _ _ hr o2 k)
        · cases h
      · cases h
    · cases h
theorem am_A_post {S : am_Sy} {M : am_Me} {f : am_F} {P P' : Option Value → am_S → Prop} (h : ∀ r σ, P r σ → P' r σ) (k : am_A S M f (am_r S P)) : am_A S M f (am_r S P') := by
  intro p l e s m args below meth c H locs ls D ca ρ A hl9 hx hb hml hne hr hlk hown hts hX hA hR hL hlen T hT X
  obtain ⟨t, a1, o, b1, b2, ⟨⟨r, σ, q1, q2, q3⟩, q4⟩, b4⟩ := k p l e s m args below meth c H locs ls D ca ρ A hl9 hx hb hml hne hr hlk hown hts hX hA hR hL hlen T hT X
  exact ⟨t, a1, o, b1, b2, ⟨⟨r, σ, q1, h r σ q2, q3⟩, q4⟩, b4⟩
/-! returns -/
theorem am_ret_i {S : am_Sy} {M : am_Me} {pc : Nat} {L : List (Option Value)} {v : Int32} {σ : am_S} {post : Option Value → am_S → Prop} (hM : am_ok S M) (ht : am_rt M = some .int) {x : am_X} (hq : (am_cd M)[pc]? = some (some (.ireturn, 1, x))) (h : post (some (.int v)) σ) : am_A S M (pc, L, [.int v], σ) (am_r S post) := by
  intro p l e s m args below meth c H locs ls D ca ρ A hl9 hx hb hml hne hr hlk hown hts hX hA hR hL hlen
  exact W.iret (v := v) hx hb (hr.trans ht) (fun t ht hW => ⟨⟨some (.int v), σ, rfl, h, by rw [ht]; exact hR.1⟩, hR.2.2.F ht⟩) hR.2.2.2.2 (hM.2.2.2.2.2 pc _ hq).1 hlk
theorem am_ret_z {S : am_Sy} {M : am_Me} {pc : Nat} {L : List (Option Value)} {v : Int32} {σ : am_S} {post : Option Value → am_S → Prop} (hM : am_ok S M) (ht : am_rt M = some .boolean) {x : am_X} (hq : (am_cd M)[pc]? = some (some (.ireturn, 1, x))) (hv : v = 0 ∨ v = 1) (h : post (some (.int v)) σ) : am_A S M (pc, L, [.int v], σ) (am_r S post) := by
  intro p l e s m args below meth c H locs ls D ca ρ A hl9 hx hb hml hne hr hlk hown hts hX hA hR hL hlen
  exact W.zret (v := v) hx hb (hr.trans ht) (by rcases hv with rfl | rfl <;> decide +kernel) (fun t ht hW => ⟨⟨some (.int v), σ, rfl, h, by rw [ht]; exact hR.1⟩, hR.2.2.F ht⟩) hR.2.2.2.2 (hM.2.2.2.2.2 pc _ hq).1 hlk
theorem am_ret_l {S : am_Sy} {M : am_Me} {pc : Nat} {L : List (Option Value)} {v : Int64} {σ : am_S} {post : Option Value → am_S → Prop} (hM : am_ok S M) (ht : am_rt M = some .long) {x : am_X} (hq : (am_cd M)[pc]? = some (some (.lreturn, 1, x))) (h : post (some (.long v)) σ) : am_A S M (pc, L, [.long v], σ) (am_r S post) := by
  intro p l e s m args below meth c H locs ls D ca ρ A hl9 hx hb hml hne hr hlk hown hts hX hA hR hL hlen
  exact W.lret (v := v) hx hb (hr.trans ht) (fun t ht hW => ⟨⟨some (.long v), σ, rfl, h, by rw [ht]; exact hR.1⟩, hR.2.2.F ht⟩) hR.2.2.2.2 (hM.2.2.2.2.2 pc _ hq).1 hlk
theorem am_ret_v {S : am_Sy} {M : am_Me} {pc : Nat} {L : List (Option Value)} {σ : am_S} {post : Option Value → am_S → Prop} (hM : am_ok S M) (ht : am_rt M = none) {x : am_X} (hq : (am_cd M)[pc]? = some (some (.return_, 1, x))) (h : post none σ) : am_A S M (pc, L, [], σ) (am_r S post) := by
  intro p l e s m args below meth c H locs ls D ca ρ A hl9 hx hb hml hne hr hlk hown hts hX hA hR hL hlen
  exact W.vret hx hb (hr.trans ht) (fun t ht hW => ⟨⟨none, σ, rfl, h, by rw [ht]; exact hR.1⟩, hR.2.2.F ht⟩) hR.2.2.2.2 (hM.2.2.2.2.2 pc _ hq).1 hlk
/-! a method's contract -/
def am_Pc (S : am_Sy) (D : va_G) (ca : Nat → ClassId) (ρ : Nat → Nat) (as : List Value) (σ : am_S) (sz : Nat) : Array Value → State → Prop := fun v U => v = (as.map (am_v ρ)).toArray ∧ U.heap.size = sz ∧ va_P D (am_cl S) (am_ws (am_sh S) ca ρ (am_nw S) σ) U.heap ∧ va_D (fun _ => True) (am_ws (am_sh S) ca ρ (am_nw S) σ) ∧ am_X0 S D ca ρ (am_Ar S ρ sz) U U.heap
def am_wm (S : am_Sy) (M : am_Me) : List Cond := .code (am_nm M) (am_cc M) (am_mx M) (am_rt M) :: am_tw S
def am_Mt (S : am_Sy) (M : am_Me) (as : List Value) (σ : am_S) (post : Option Value → am_S → Prop) : Prop := ∀ (l : Launch), l.stackTraces = false → ∀ (D : va_G) (ca : Nat → ClassId) (ρ : Nat → Nat) (sz : Nat),
  Met l (am_nm M) (am_wm S M) (am_rm M) (am_Pc S D ca ρ as σ sz) (am_Q S D ca ρ (am_Ar S ρ sz) post) 0 0 (am_Ar S ρ sz)
theorem am_D_ar {S : am_Sy} {ca : Nat → ClassId} {ρ : Nat → Nat} {σ : am_S} {A : Nat → Prop} {sz : Nat} (h : va_D A (am_ws (am_sh S) ca ρ (am_nw S) σ)) : va_D (am_Ar S ρ sz) (am_ws (am_sh S) ca ρ (am_nw S) σ) := by
  refine h.weaken (fun k q hk _ => ?_)
  have hlt : k < am_nw S := by
    have := (List.getElem?_eq_some_iff.mp hk).1
    rwa [am_ws_len] at this
  rw [am_ws_at hlt] at hk
  cases hk
  exact Or.inl ⟨k, hlt, rfl⟩
theorem am_D_mv {sh : Nat → am_C} {ca : Nat → ClassId} {ρ : Nat → Nat} {N : Nat} {σ τ : am_S} {A : Nat → Prop} (h : va_D A (am_ws sh ca ρ N σ)) : va_D A (am_ws sh ca ρ N τ) := by
  have key : ∀ (k : Nat) (q : Nat × va_E), (am_ws sh ca ρ N τ)[k]? = some q → ∃ q', (am_ws sh ca ρ N σ)[k]? = some q' ∧ q'.1 = q.1 := by
    intro k q hk
    have hlt : k < N := by
      have := (List.getElem?_eq_some_iff.mp hk).1
      rwa [am_ws_len] at this
    rw [am_ws_at hlt] at hk
    cases hk
    exact ⟨_, am_ws_at hlt, rfl⟩
  refine ⟨fun i j p q hp hq e => ?_, fun k q hk => ?_⟩
  · obtain ⟨p', h1, e1⟩ := key i p hp
    obtain ⟨q', h2, e2⟩ := key j q hq
    exact h.1 i j p' q' h1 h2 (by rw [e1, e2]; exact e)
  · obtain ⟨q', h1, e1⟩ := key k q hk
    rw [← e1]
    exact h.2 k q' h1
theorem am_M_of {S : am_Sy} {M : am_Me} {as : List Value} {σ : am_S} {post : Option Value → am_S → Prop} (hM : am_ok S M) (hn : (am_en as).length ≤ am_mx M) (k : am_A S M (0, am_ent as (am_mx M), [], σ) (am_r S post)) : am_Mt S M as σ post := by
  intro l hl9 D ca ρ sz
  refine Met.ofW (cc := am_cc M) (maxL := am_mx M) (ret := am_rt M) hM.1 rfl ?_
  intro p e s m args below meth c s₁ B hml hv
  obtain ⟨rfl, hsz, hP, hD, hX⟩ := hv
  have hts := atoms_spec (ws := am_wm S M) B.pre
  have hown : s.vm.findClass (am_nm M).cls = some m.cls := findClass_of_methodNamed B.named
  rw [hM.2.1] at hown
  subst hsz
  have hl := lv_entry (as.map (am_v ρ)) (n := am_mx M) (by rw [am_en_len]; exact hn)
  rw [lg_entry_eq]
  have hL := am_ent_ok (ρ := ρ) hn hl
  exact k p l e s m _ below meth c s.heap [] _ D ca ρ (am_Ar S ρ s.heap.size) hl9 B.exec B.bytes hml (B.noHandlers (hts _ List.mem_cons_self)) B.returns B.notSynchronized hown (fun w hw => hts w (List.mem_cons_of_mem _ hw)) hX (fun q hq => Or.inr hq) ⟨hP, am_D_ar hD, va_S.rf⟩ hL (by simp [am_ent]; omega)
end
section
/-! calls -/
theorem am_X0_warm {S : am_Sy} (hS : am_sys S) {D : va_G} {ca : Nat → ClassId} {ρ : Nat → Nat} {A : Nat → Prop} {s U : State} {H : Heap} (hW : s.WarmedH U.vm) (h : am_X0 S D ca ρ A s H) : am_X0 S D ca ρ A U H :=
  ⟨va_K.moved hW.alike h.1, fun w hw => am_nest_warm (hS.2.2 w hw) hW (h.2.1 w hw), fun q hq => (h.2.2.1 q hq).moved hW.alike, fun k h1 h2 => (h.2.2.2.1 k h1 h2).moved hW.alike, fun q hq => by obtain ⟨v, hv, hz⟩ := h.2.2.2.2 q hq; exact ⟨v, hv, hz.moved hW.alike⟩⟩
theorem am_nest_tab {w : Cond} (h : am_nest w = true) : w.onTables = true := by
  cases w <;> first | rfl | cases h
theorem am_X0_same {S : am_Sy} (hS : am_sys S) {D : va_G} {ca : Nat → ClassId} {ρ : Nat → Nat} {A : Nat → Prop} {s U : State} {H : Heap} (hv : s.vm = U.vm) (h : am_X0 S D ca ρ A s H) : am_X0 S D ca ρ A U H := by
  have ha : s.vm.Alike U.vm := hv ▸ Vm.Alike.refl s.vm
  exact ⟨va_K.moved ha h.1, fun w hw => (h.2.1 w hw).same (am_nest_tab (hS.2.2 w hw)) hv, fun q hq => (h.2.2.1 q hq).moved ha, fun k h1 h2 => (h.2.2.2.1 k h1 h2).moved ha, fun q hq => by obtain ⟨v, hv, hz⟩ := h.2.2.2.2 q hq; exact ⟨v, hv, hz.moved ha⟩⟩
theorem am_X0_heap {S : am_Sy} {D : va_G} {ca : Nat → ClassId} {ρ : Nat → Nat} {A B : Nat → Prop} {s : State} {H H1 : Heap} (hq : ∀ a : Nat, a < H.size → ¬ A a → H1[a]? = H[a]?) (hB : ∀ q, B q → A q) (h : am_X0 S D ca ρ A s H) : am_X0 S D ca ρ B s H1 :=
  ⟨h.1, h.2.1, fun q hq' => ((h.2.2.1 q hq').kept hq).narrow hB, fun k h1 h2 => ((h.2.2.2.1 k h1 h2).kept hq).narrow hB, fun q hq' => by obtain ⟨v, hv, hz⟩ := h.2.2.2.2 q hq'; exact ⟨v, hv, (hz.kept hq).narrow hB⟩⟩
theorem am_Pc_blind {S : am_Sy} (hS : am_sys S) {D : va_G} {ca : Nat → ClassId} {ρ : Nat → Nat} {as : List Value} {σ : am_S} {sz : Nat} : FrameBlind (am_Pc S D ca ρ as σ sz) := by
  intro a U g mk ⟨h1, h2, h3, h4, h5⟩
  exact ⟨h1, h2, h3, h4, am_X0_same hS (s := U) (U := U.calling g mk a) rfl h5⟩
theorem am_Ar_in {S : am_Sy} {ca : Nat → ClassId} {ρ : Nat → Nat} {A : Nat → Prop} {σ : am_S} {H0 H : Heap} (hA : ∀ q, H0.size ≤ q → A q) (hz : H0.size ≤ H.size) (hD : va_D A (am_ws (am_sh S) ca ρ (am_nw S) σ)) : ∀ q, am_Ar S ρ H.size q → A q := by
  intro q hq
  rcases hq with ⟨k, hk, rfl⟩ | hq
  · exact hD.2 k _ (am_ws_at hk)
  · exact hA q (Nat.le_trans hz hq)
def am_lk (S : am_Sy) (M M2 : am_Me) (idx : Nat) (nest : Bool) (n : Nat) : Prop :=
  (nest = false → Cond.methodLink (am_yl M).1 idx (am_nm M2) ∈ am_tw S) ∧ (nest = true → Cond.methodLinkNest (am_yl M).1 idx (am_nm M2) (am_ho S) ∈ am_nn S) ∧ Cond.code (am_nm M2) (am_cc M2) (am_mx M2) (am_rt M2) ∈ am_tw S ∧ Cond.initialized (am_nm M2).cls ∈ am_tw S ∧
  ((am_nm M2).cls ≠ "java/lang/invoke/MethodHandle" ∧ (am_nm M2).cls ≠ "java/lang/invoke/VarHandle" ∧ (parseMethodDescriptor (am_nm M2).desc).map (fun d => d.parameters.length) = some n) ∧ (am_rm M2).frames + 1 ≤ (am_rm M).frames ∧ (am_rm M2).cells = 0 ∧ (am_rm M2).slots = 0 ∧ 8 + (am_mx M2 + 11) + (am_rm M2).locals ≤ (am_rm M).locals
theorem am_pay {S : am_Sy} {M2 : am_Me} {args : Array Value} {s : State} (hS : am_sys S) (hts : ∀ w ∈ am_tw S, w.before args s = true) (hc : Cond.code (am_nm M2) (am_cc M2) (am_mx M2) (am_rt M2) ∈ am_tw S) : ∀ w ∈ am_wm S M2, ∀ (a' : Array Value) (U : State), s.WarmedH U.vm → w.before a' U = true := by
  intro w hw a' U hW
  have hw : w ∈ am_tw S := by
    rcases List.mem_cons.mp hw with e | e
    · rw [e]; exact hc
    · exact e
  exact word_at hW (good_of_word (hS.2.1 w hw)) (hts w hw)
theorem am_map_toList {f : Value → Value} (r : Option Value) (l : List Value) : (r.map f).toList ++ l.map f = (r.toList ++ l).map f := by
  cases r <;> simp
theorem am_back {S : am_Sy} {M : am_Me} {pc : Nat} {L : List (Option Value)} {rest st0 : List Value} {σ : am_S} {F : am_Fn} {post2 : Option Value → am_S → Prop} (kk : ∀ r σ', post2 r σ' → am_A S M (pc + 3, L, r.toList ++ rest, σ') F)
    {p : Program} {l : Launch} {e : Env} {s : State} {m : MethodId} {args : Array Value} {below : List Frame} {meth : Method} {c : Code} {H : Heap} {locs : List Loc} {ls : Array Slot} {D : va_G} {ca : Nat → ClassId} {ρ : Nat → Nat} {A : Nat → Prop} {a : Array Value}
    (hl9 : l.stackTraces = false) (hx : p.tables.exec = Jvm.exec) (hb : c.code = am_cc M) (hml : c.maxLocals = am_mx M) (hne : c.exceptionTable.isEmpty = true) (hr : meth.sig.returnType = am_rt M) (hlk : meth.locks = false) (hown : s.vm.findClass (am_yl M).1 = some m.cls) (hts : ∀ w ∈ am_tw S, w.before args s = true) (hX : am_X0 S D ca ρ A s s.heap) (hA : ∀ q, s.heap.size ≤ q → A q)
    (hR : am_R (am_cl S) (am_sh S) (am_nw S) D ca ρ A s σ H locs) (hL : am_L ρ L ls) (hlen : L.length = am_mx M)
    (hrun : va_Run p l e (am_rm M) s m args below meth c H locs 0 0 0 0 (F0 m pc ls st0) (rest.map (am_v ρ)) (am_Q S D ca ρ (am_Ar S ρ H.size) post2 a) (am_Ar S ρ H.size)) :
    W p l e (am_rm M) s m args below meth c H locs 0 0 (F below args s A D ca ρ) (F0 m pc ls st0) := by
  intro T hT X
  obtain ⟨v, st₀, t, T', L1, h0, X', hL1, e1, e2, ⟨⟨r, σ', q1, q2, q3⟩, q4⟩, st⟩ := hrun T hT X
  have hv : v = r.map (am_v ρ) := Outcome.returned.inj q1
  subst hv
  have hAr := am_Ar_in (S := S) hA hR.2.2.1 hR.2.1
  obtain ⟨z1, z2⟩ := q4
  rw [h0] at z1 z2
  have hR' : am_R (am_cl S) (am_sh S) (am_nw S) D ca ρ A s σ' T'.heap (locs ++ L1) := by
    refine ⟨by rw [e1]; exact q3, am_D_mv hR.2.1, by rw [e1]; exact Nat.le_trans hR.2.2.1 z1, fun q h1 h2 => ?_, fun q hq => ?_⟩
    · rw [e1, z2 q (Nat.lt_of_lt_of_le h1 hR.2.2.1) (fun z => h2 (hAr q z))]
      exact hR.2.2.2.1 q h1 h2
    · rcases List.mem_append.mp hq with h | h
      · exact hR.2.2.2.2 q h
      · exact hAr _ (hL1 q h)
  obtain ⟨t2, a1, b1⟩ := kk r σ' q2 p l e s m args below meth c T'.heap (locs ++ L1) ls D ca ρ A hl9 hx hb hml hne hr hlk hown hts hX hA hR' hL hlen T' rfl X'
  refine ⟨t2, st t2 ?_, b1⟩
  rw [am_map_toList]
  exact a1
theorem am_callV {S : am_Sy} {M M2 : am_Me} {pc idx n k ci : Nat} {nest : Bool} {x : am_X} {L : List (Option Value)} {as rest : List Value} {σ : am_S} {F : am_Fn} {post2 : Option Value → am_S → Prop} {ks : List am_K} {q : vw_C} (hS : am_sys S) (hM : am_ok S M) (hq : (am_cd M)[pc]? = some (some (.invokevirtual idx, 3, x)))
    (hlk2 : am_lk S M M2 idx nest n) (hi : Cond.instanceMethod (am_nm M2) ∈ am_tw S) (hse : Cond.selects (am_nm M2).cls (am_nm M2) (am_nm M2) ∈ am_tw S) (hk : k < am_nw S) (hsh : am_sh S k = .inr (ci, ks)) (hci : (am_cl S)[ci]? = some q) (hqc : q.1 = (am_nm M2).cls) (hn : as.length = n) (hw : (rest.map Value.category).sum ≤ 8)
    (hM2 : am_Mt S M2 (.ref k :: as) σ post2) (kk : ∀ r σ', post2 r σ' → am_A S M (pc + 3, L, r.toList ++ rest, σ') F) : am_A S M (pc, L, as.reverse ++ .ref k :: rest, σ) F := by
  intro p l e s m args below meth c H locs ls D ca ρ A hl9 hx hb hml hne hr hlk hown hts hX hA hR hL hlen
  obtain ⟨l1, l2, l3, l4, l5, l6, l8, l9, l7⟩ := hlk2
  have hd := (hM.2.2.2.2.2 pc _ hq).1
  have he := am_ws_at (sh := am_sh S) (ca := ca) (ρ := ρ) (σ := σ) hk
  rw [am_cell_o hsh] at he
  have hrec := va_recv hX.1 hR.1 hci he
  rw [hqc] at hrec
  have hAr := am_Ar_in (S := S) hA hR.2.2.1 hR.2.1
  have hpre : PreV s H (am_nm M2).cls (ρ k) (am_Pc S D ca ρ (.ref k :: as) σ H.size) (as.map (am_v ρ)) :=
    ⟨am_Pc_blind hS, hrec, fun U hU hW => ⟨rfl, by rw [hU], by rw [hU]; exact hR.1, hR.2.1.weaken (fun _ _ _ _ => trivial), by rw [hU]; exact am_X0_warm hS hW (am_X0_heap hR.2.2.2.1 hAr hX)⟩⟩
  have hst : (F0 m pc ls ((as.reverse ++ .ref k :: rest).map (am_v ρ))).stack = (as.map (am_v ρ)).reverse ++ .ref (ρ k) :: rest.map (am_v ρ) := by
    show (as.reverse ++ .ref k :: rest).map (am_v ρ) = _
    simp [List.map_append, am_v]
  have hwr : 2 * (F0 m pc ls ((as.reverse ++ .ref k :: rest).map (am_v ρ))).monitorRoom + ((rest.map (am_v ρ)).map fun v => v.category).sum ≤ 8 := by
    have e : ((rest.map (am_v ρ)).map fun v => v.category) = rest.map Value.category := by
      rw [List.map_map]
      exact List.map_congr_left (fun v _ => am_v_cat ρ v)
    exact lv_room (by rw [e]; exact hw)
  have hlen2 : ∀ sig, parseMethodDescriptor (am_nm M2).desc = some sig → n = sig.parameters.length := by
    intro sig h
    have h2 := l5.2.2
    rw [h] at h2
    exact (Option.some.inj h2).symm
  have hcode := hts _ l3
  have hpay := am_pay hS hts l3
  refine am_back (a := (Value.ref (ρ k) :: as.map (am_v ρ)).toArray) kk hl9 hx hb hml hne hr hlk hown hts hX hA hR hL hlen ?_
  cases nest with
  | false => exact va_runV (C := (am_nm M2).cls) ⟨hx, hb, hml, hown, hts⟩ (hM2 l hl9 D ca ρ H.size) ⟨⟨l8, l9, l6, l7, hpay, List.mem_cons_self, hcode, hts _ l4, ⟨l5.1, l5.2.1⟩, hlen2, hts _ (l1 rfl)⟩, hts _ hi, hts _ hse⟩ hpre rfl (by simpa using hn) (hL.1.trans hlen) hst hwr hd ⟨Nat.zero_le _, Nat.zero_le _⟩
  | true => exact va_runVN (C := (am_nm M2).cls) (host := am_ho S) ⟨hx, hb, hml, hown, hts⟩ (hM2 l hl9 D ca ρ H.size) ⟨⟨⟨l8, l9, l6, l7, hpay, List.mem_cons_self⟩, hcode, hts _ l4, ⟨l5.1, l5.2.1⟩, hlen2, va_Nw.use rfl (hX.2.1 _ (l2 rfl))⟩, hts _ hi, hts _ hse⟩ hpre rfl (by simpa using hn) (hL.1.trans hlen) hst hwr hd ⟨Nat.zero_le _, Nat.zero_le _⟩
theorem am_callS {S : am_Sy} {M M2 : am_Me} {pc idx n : Nat} {nest : Bool} {x : am_X} {L : List (Option Value)} {as rest : List Value} {σ : am_S} {F : am_Fn} {post2 : Option Value → am_S → Prop} (hS : am_sys S) (hM : am_ok S M) (hq : (am_cd M)[pc]? = some (some (.invokestatic idx, 3, x)))
    (hlk2 : am_lk S M M2 idx nest n) (hi : Cond.static (am_nm M2) ∈ am_tw S) (hn : as.length = n) (hw : (rest.map Value.category).sum ≤ 8)
    (hM2 : am_Mt S M2 as σ post2) (kk : ∀ r σ', post2 r σ' → am_A S M (pc + 3, L, r.toList ++ rest, σ') F) : am_A S M (pc, L, as.reverse ++ rest, σ) F := by
  intro p l e s m args below meth c H locs ls D ca ρ A hl9 hx hb hml hne hr hlk hown hts hX hA hR hL hlen
  obtain ⟨l1, l2, l3, l4, l5, l6, l8, l9, l7⟩ := hlk2
  have hd := (hM.2.2.2.2.2 pc _ hq).1
  have hAr := am_Ar_in (S := S) hA hR.2.2.1 hR.2.1
  have hpre : PreS s H (am_Pc S D ca ρ as σ H.size) (as.map (am_v ρ)) :=
    ⟨am_Pc_blind hS, fun U hU hW => ⟨rfl, by rw [hU], by rw [hU]; exact hR.1, hR.2.1.weaken (fun _ _ _ _ => trivial), by rw [hU]; exact am_X0_warm hS hW (am_X0_heap hR.2.2.2.1 hAr hX)⟩⟩
  have hst : (F0 m pc ls ((as.reverse ++ rest).map (am_v ρ))).stack = (as.map (am_v ρ)).reverse ++ rest.map (am_v ρ) := by
    show (as.reverse ++ rest).map (am_v ρ) = _
    simp [List.map_append]
  have hwr : 2 * (F0 m pc ls ((as.reverse ++ rest).map (am_v ρ))).monitorRoom + ((rest.map (am_v ρ)).map fun v => v.category).sum ≤ 8 := by
    have e : ((rest.map (am_v ρ)).map fun v => v.category) = rest.map Value.category := by
      rw [List.map_map]
      exact List.map_congr_left (fun v _ => am_v_cat ρ v)
    exact lv_room (by rw [e]; exact hw)
  have hlen2 : ∀ sig, parseMethodDescriptor (am_nm M2).desc = some sig → n = sig.parameters.length := by
    intro sig h
    have h2 := l5.2.2
    rw [h] at h2
    exact (Option.some.inj h2).symm
  have hcode := hts _ l3
  have hpay := am_pay hS hts l3
  refine am_back (a := (as.map (am_v ρ)).toArray) kk hl9 hx hb hml hne hr hlk hown hts hX hA hR hL hlen ?_
  cases nest with
  | false => exact va_runS ⟨hx, hb, hml, hown, hts⟩ (hM2 l hl9 D ca ρ H.size) ⟨⟨l8, l9, l6, l7, hpay, List.mem_cons_self, hcode, hts _ l4, ⟨l5.1, l5.2.1⟩, hlen2, hts _ (l1 rfl)⟩, hts _ hi⟩ hpre rfl (by simpa using hn) (hL.1.trans hlen) hst hwr hd ⟨Nat.zero_le _, Nat.zero_le _⟩
  | true => exact va_runSN (host := am_ho S) ⟨hx, hb, hml, hown, hts⟩ (hM2 l hl9 D ca ρ H.size) ⟨⟨⟨l8, l9, l6, l7, hpay, List.mem_cons_self⟩, hcode, hts _ l4, ⟨l5.1, l5.2.1⟩, hlen2, va_Nw.use rfl (hX.2.1 _ (l2 rfl))⟩, hts _ hi, trivial⟩ hpre rfl (by simpa using hn) (hL.1.trans hlen) hst hwr hd ⟨Nat.zero_le _, Nat.zero_le _⟩
end
section
/-! throwing a new exception of a class without a message, over a launch without stack traces; catching it -/
theorem wt_off {l : Launch} {e : Env} (h : l.admits e) (hl : l.stackTraces = false) : e.platform.stackTraces = false := by
  have h5 := h.2.2.2.2.1
  rw [h5]
  exact hl
section WTH
variable {p : Program} {l : Launch} {e : Env} {R : Room} {s : State} {m : MethodId} {args : Array Value} {below : List Frame} {meth : Method} {c : Code} {H : Heap} {locs : List Loc} {cells slots : Nat} {Q : State → Prop} {cc : ByteArray} {pc : Nat} {ls : Array Slot}
set_option maxHeartbeats 4000000 in
theorem wt_ctor0 (hx : p.tables.exec = Jvm.exec) (hb : c.code = cc) (hl : l.stackTraces = false) {own X : String} {names : List String} {ic : Nat} (hown : s.vm.findClass own = some m.cls) (hX : Bundle.fit X = true) (hnames : ∀ n ∈ names, Bundle.fit n = true) (hw : ∀ a ∈ Bundle.ownAtoms0 own ic X names, a.before args s = true)
    {A : Nat → Prop} {v9 : Value} (hlocs : ∀ y ∈ locs, A y.base) (hz9 : va_Z Bundle.tN "UNASSIGNED_STACK" Bundle.steD v9 A s s.heap) {a : Addr} {cX : ClassId} {kX : Class} (hf : s.vm.findClass X = some cX) (hk : s.vm.classes[cX]? = some kX) (hcell : H[a]? = some (freshCell cX kX)) (hnew : s.heap.size ≤ a) {rest : List Value} (hsz : ls.size = c.maxLocals)
    (hd : decode cc pc = .ok (.invokespecial ic, 3)) (hRf : names.length + 3 < R.frames) (hRl : ((Value.ref a :: rest).map fun v => v.category).sum + (13 * (names.length + 1) + 41) ≤ R.locals)
    (kk : ∀ (H' : Heap) (ce : Cell) (locs' : List Loc), H'.size = H.size → (∀ q, q ≠ a → H'[q]? = H[q]?) → H'[a]? = some ce → ce.cls = cX → ce.vm = .none → (∀ y ∈ locs', y ∈ locs ∨ y.base = a) → W p l e R s m args below meth c H' locs' cells slots Q (F0 m (pc + 3) ls (.ref a :: rest))) :
    W p l e R s m args below meth c H locs cells slots Q (F0 m pc ls (.ref a :: .ref a :: rest)) := by
  intro T hT St
  have htr := wt_off St.admits hl
  have hmag : e.platform.magicAccessors = ({} : Platform).magicAccessors := by rw [St.admits.platform]
  have hmon : e.platform.frameOwnsMonitors = true := by rw [St.admits.platform]
  have hfinz : e.platform.finalization = false := by rw [St.admits.platform]
  have hh : ∀ w, w ∈ Bundle.ownAtoms0 own ic X names → w.holds args s none s [] = true := fun w hw' => hw w hw'
  obtain ⟨B, Z, LB, LZ, Y⟩ := ThrowableC.of_atoms (args := args) hmon hfinz hmag (fun w hw' => hw w (by simp [Bundle.ownAtoms0, hw']))
  obtain ⟨P1, Ps, hlen, L1, hL, hm1, hs1, hps⟩ := Bundle.chain0 (args := args) hmag Y.init0 names X hX hnames (fun w hw' => hw w (by simp [Bundle.ownAtoms0, hw']))
  have hf1 : s.vm.findClass X = some P1.m.cls := findClass_of_methodNamed hm1
  have ecX : cX = P1.m.cls := Option.some.inj (hf.symm.trans hf1)
  subst ecX
  obtain ⟨c1, k1, hc1, hk1, hord, -, -, hn6⟩ := Cond.instantiable_spec (hh (.instantiable X 6) (by simp [Bundle.ownAtoms0]))
  have ec1 : c1 = P1.m.cls := Option.some.inj (hc1.symm.trans hf1)
  subst ec1
  have ek1 : k1 = kX := Option.some.inj (hk1.symm.trans hk)
  subst ek1
  have sel : ∀ (y : MethodName) (i : MethodId), y ∈ [Bundle.tFill0, Bundle.tFill] → s.methodNamed? y = some i → (Cond.selects X y y).holds args s none s [] = true → selectMethod e.platform s.vm P1.m.cls i = .method i := by
    intro y i hy hi hs
    obtain ⟨c2, r2, m2, q1, q2, q3, q4, -⟩ := Cond.selects_spec hs
    have e1 : c2 = P1.m.cls := Option.some.inj (q1.symm.trans hf1)
    subst e1
    have hne : y.cls ≠ "java/lang/invoke/MethodHandle" ∧ y.cls ≠ "java/lang/invoke/VarHandle" := by
      simp only [List.mem_cons, List.not_mem_nil, or_false] at hy
      rcases hy with rfl | rfl <;> decide
    have e2 : r2 = i := Option.some.inj (q2.symm.trans (State.methodFound?_of_named hi hne))
    subst e2
    have e3 : m2 = r2 := Option.some.inj (q3.symm.trans hi)
    subst e3
    rw [Launch.admits_selectMethod St.admits]
    exact q4
  have hsel0 := sel _ _ (by simp) Y.fill0 (hh (.selects X Bundle.tFill0 Bundle.tFill0) (by simp [Bundle.ownAtoms0]))
  have hself := sel _ _ (by simp) Y.fill (hh (.selects X Bundle.tFill Bundle.tFill) (by simp [Bundle.ownAtoms0]))
  obtain ⟨cS, hcS, hisS⟩ := Y.statics
  obtain ⟨u0, hu0⟩ := Cond.staticRefV Y.unassigned LB.unassignedStatic LB.statics hcS hisS (hh (.isRef (.static Bundle.tN "UNASSIGNED_STACK" Bundle.steD)) (by simp [Bundle.ownAtoms0]))
  obtain ⟨u1, hu1⟩ := Cond.staticRefV Y.sentinel LB.sentinelStatic LB.statics hcS hisS (hh (.isRef (.static Bundle.tN "SUPPRESSED_SENTINEL" Bundle.listD)) (by simp [Bundle.ownAtoms0]))
  obtain ⟨ci, ix, fB, b1, b2, b3, b4, -, b5, b6, b7⟩ := Cond.ownField (t := .object "java/lang/Object") Y.found LB.cls (by decide +kernel) (hh (.fieldLink Bundle.tN 198 Bundle.tN "backtrace" "Ljava/lang/Object;") (by simp [Bundle.ownAtoms0])) (hh (.lays Bundle.tN Bundle.tN "backtrace" "Ljava/lang/Object;") (by simp [Bundle.ownAtoms0])) e.platform hmag
  obtain ⟨cT, hcT, hvmT, -, hkeep⟩ := St.same.2.2.2.2.2 B.aS cS hcS
  have hcT : T.heap[B.aS]? = some cT := hcT
  have hoff : ∀ i, (⟨B.aS, i⟩ : Loc) ∉ locs := by
    intro i hi
    obtain ⟨cf, kf, fi, f, a9, cell9, z1, z2, z3, z4, z5, z6, z7, z8⟩ := hz9
    have e9 := Option.some.inj (z1.symm.trans Y.unassigned)
    have e8 : kf = B.kT := congrArg (fun q => q.2.1) e9
    rw [e8] at z4
    have e7 : a9 = B.aS := Option.some.inj (z4.symm.trans LB.statics)
    rw [e7] at z8
    exact z8 (hlocs _ hi)
  have hunk : cT.vm ≠ .unknown := by
    rw [hvmT]
    intro h9
    rw [show cS.vm = .unknown from h9] at hisS
    cases hisS
  have hne : B.aS ≠ a := Nat.ne_of_lt (Nat.lt_of_lt_of_le (Array.getElem?_eq_some_iff.mp hcS).1 hnew)
  obtain ⟨y1, d1, f1, n1⟩ := Cond.laysAt hf1 hk Y.cause (hh (.lays X Bundle.tN "cause" "Ljava/lang/Throwable;") (by simp [Bundle.ownAtoms0]))
  obtain ⟨y2, d2, f2, n2⟩ := Cond.laysAt hf1 hk Y.stack (hh (.lays X Bundle.tN "stackTrace" Bundle.steD) (by simp [Bundle.ownAtoms0]))
  obtain ⟨y3, d3, f3, n3⟩ := Cond.laysAt hf1 hk Y.supp (hh (.lays X Bundle.tN "suppressedExceptions" Bundle.listD) (by simp [Bundle.ownAtoms0]))
  obtain ⟨y4, d4, f4, n4⟩ := Cond.laysAt hf1 hk b7 (hh (.lays X Bundle.tN "backtrace" "Ljava/lang/Object;") (by simp [Bundle.ownAtoms0]))
  have w1 := Cond.laysApart f4 f1 n4 n1 (by rw [b5, Y.causeName]; decide)
  have w2 := Cond.laysApart f4 f2 n4 n2 (by rw [b5, Y.stackName]; decide)
  have w3 := Cond.laysApart f4 f3 n4 n3 (by rw [b5, Y.suppName]; decide)
  have hskip : SkipFacts B e.platform s (fun u => u) u0 ((preparedCellV B.toThrowableT (freshCell P1.m.cls k1) a u0 u1).withEntry T.cur) := by
    refine ⟨{ ci198 := ci, i198 := ix, fBack := fB }, ⟨b1, b2, b3, b4⟩, ?_, fun _ _ => rfl⟩
    have h9 := fresh_default (c := P1.m.cls) y4
    rw [b6] at h9
    simpa [preparedCellV, Cell.setSlot, Cell.withEntry, Array.getElem?_setIfInBounds, w1, w2, w3, w1.symm, w2.symm, w3.symm, defaultValue] using h9
  obtain ⟨tm, me, cd, kc, vm1, hn1, -, -, -, -, -, -, -, hW1, st1⟩ := Steps.initCold (tb := p.tables) (e := e) (below := below) (s := s) (U := T) St.here hx St.warmed hmag hown (t := Bundle.init0 X) rfl rfl (Bundle.fit_spec hX).2
    (hh (.methodLink own ic (Bundle.init0 X)) (by simp [Bundle.ownAtoms0])) (hw (.instanceMethod (Bundle.init0 X)) (by cases names <;> simp [Bundle.ownAtoms0, Bundle.chain0Atoms, Bundle.passAtoms])) (bytes := Bundle.five) (maxL := 1) (hw (.code (Bundle.init0 X) Bundle.five 1 none) (by cases names <;> simp [Bundle.ownAtoms0, Bundle.chain0Atoms, Bundle.passAtoms]))
    (f := F0 m pc ls (.ref a :: .ref a :: rest)) rfl (a := a) (rest := .ref a :: rest) rfl (by rw [hb]; exact hd)
  have etm : tm = P1.m := Option.some.inj (hn1.symm.trans hm1)
  subst etm
  have St1 := St.noted hW1
  obtain ⟨vm2, St2, st2⟩ := St1.ctorPlainOffV hx (g := F0 m pc ls (.ref a :: rest)) rfl hsz B LB Z LZ (P1 :: Ps)
    (fun P hP => by rcases List.mem_cons.mp hP with e9 | hP; · rw [e9]; exact L1
                    · exact hL P hP) ⟨hs1, hps⟩ (u0 := u0) (sen := u1) (self := a) (cell := freshCell P1.m.cls k1) (cellS := cT)
    (by rw [← hT] at hcell; exact hcell) (fun _ => by simp) (by simp) rfl rfl hsel0 hself hcT hne hunk (by rw [hkeep _ (hoff _)]; exact hu0) (by rw [hkeep _ (hoff _)]; exact hu1)
    (Takes.of_laid hk hord y1 (by rw [Y.causeType]; rfl)) (Takes.of_laid hk hord y2 (by rw [Y.stackType]; exact fits_refV_array _ u0)) (Takes.of_laid hk hord y3 (by rw [Y.suppType]; exact fits_refV_object _ u1)) Y.objLocals hskip htr [] (by rw [hb]; exact hd)
    (by simp only [List.length_cons, hlen]; omega) (by
      simp only [List.length_cons, hlen]
      have h0 : 2 * (F0 m pc ls (.ref a :: rest)).monitorRoom = 0 := by
        have h9 := lv_room (m := m) (pc := pc) (ls := ls) (rest := (.ref a :: rest)) (st := ([] : List Value)) (by simp)
        simp [JFrame.monitorRoom]
      rw [h0, Nat.zero_add]
      exact hRl)
  have hlt : a < T.heap.size := by
    rw [hT]
    exact (Array.getElem?_eq_some_iff.mp hcell).1
  obtain ⟨t, q1, q2⟩ := kk (((T.setVm vm1).setVm vm2).setCell a ((preparedCellV B.toThrowableT (freshCell P1.m.cls k1) a u0 u1).setSlot B.fStack.slot u0.v)).heap ((preparedCellV B.toThrowableT (freshCell P1.m.cls k1) a u0 u1).setSlot B.fStack.slot u0.v) _
    (by rw [← hT]; simp [State.setCell, State.setVm]) (fun q hq => by rw [← hT]; simp [State.setCell, State.setVm, Array.getElem?_setIfInBounds, Ne.symm hq]) (by simp [State.setCell, State.setVm, hlt]) rfl rfl (fun y hy => by
      rcases List.mem_append.mp hy with h1 | h1
      · exact Or.inl h1
      · simp only [List.mem_cons, List.not_mem_nil, or_false] at h1
        rcases h1 with rfl | rfl | rfl | rfl <;> exact Or.inr rfl) _ rfl St2
  refine ⟨t, st1 _ (fun acts => ?_), q2⟩
  rw [doInvoke_state]
  exact st2 _ q1
/-- athrow, out of the method -/
theorem wt_athrow (hx : p.tables.exec = Jvm.exec) (hb : c.code = cc) {a : Addr} {rest : List Value} (hout : ∀ y ∈ c.exceptionTable.toList, covers y pc = false) (hd : decode cc pc = .ok (.athrow, 1)) (hlk : meth.locks = false)
    (kk : ∀ t : State, t.heap = H → t.status = .running → Ended t below (.threw a) → s.WarmedH t.vm → s.sameButNew ({ t with vm := s.vm } : State) locs cells slots → Q t) : W p l e R s m args below meth c H locs cells slots Q (F0 m pc ls (.ref a :: rest)) := by
  intro T hT St
  obtain ⟨h1, h2, h3, h4, h5⟩ := St.athrowLeaves hx (g := F0 m pc ls (.ref a :: rest)) rfl rfl rfl hout (a := a) (rest := rest) rfl (by rw [hb]; exact hd) hlk
  exact ⟨_, h1, kk _ hT h2 h3 h4 h5⟩
end WTH
end
section
/-! a method that returns or throws a new exception X -/
theorem wm_mono {p : Program} {l : Launch} {e : Env} {R : Room} {s : State} {m : MethodId} {args : Array Value} {below : List Frame} {meth : Method} {c : Code} {H : Heap} {locs : List Loc} {cells slots : Nat} {Q Q' : State → Prop} {g : JFrame} (h : ∀ t, Q t → Q' t) (k : W p l e R s m args below meth c H locs cells slots Q g) : W p l e R s m args below meth c H locs cells slots Q' g := by
  intro T hT X
  obtain ⟨t, a, b⟩ := k T hT X
  exact ⟨t, a, h t b⟩
def am_QT (S : am_Sy) (D : va_G) (ca : Nat → ClassId) (ρ : Nat → Nat) (A : Nat → Prop) (post : Option Value → am_S → Prop) (postT : am_S → Prop) (X : String) : Array Value → State → Outcome → State → Prop := fun a st o t =>
  (am_Q S D ca ρ A post a st o t ∧ ∃ L, FrameEnd st o t L 0 0 ∧ ∀ q ∈ L, A q.base) ∨
  ∃ (x : Addr) (σ : am_S) (L : List Loc) (ce : Cell), o = .threw x ∧ postT σ ∧ va_P D (am_cl S) (am_ws (am_sh S) ca ρ (am_nw S) σ) t.heap ∧ va_F A st t ∧ t.heap[x]? = some ce ∧ ce.vm = .none ∧ st.vm.findClass X = some ce.cls ∧ st.heap.size ≤ x ∧ st.WarmedH t.vm ∧ st.sameButNew ({ t with vm := st.vm } : State) L 1 6 ∧ ∀ q ∈ L, A q.base
def am_tF (S : am_Sy) (post : Option Value → am_S → Prop) (postT : am_S → Prop) (X : String) : am_Fn := fun below args s A D ca ρ t => ∃ o, t.status = .running ∧ Ended t below o ∧ am_QT S D ca ρ A post postT X args s o t
theorem am_A_tr {S : am_Sy} {M : am_Me} {f : am_F} {post : Option Value → am_S → Prop} {postT : am_S → Prop} {X : String} (k : am_A S M f (am_r S post)) : am_A S M f (am_tF S post postT X) := by
  intro p l e s m args below meth c H locs ls D ca ρ A hl9 hx hb hml hne hr hlk hown hts hX hA hR hL hlen
  exact wm_mono (fun t ⟨o, h1, h2, h3, L, h4, h5⟩ => ⟨o, h1, h2, Or.inl ⟨h3, L, h4, h5⟩⟩) (k p l e s m args below meth c H locs ls D ca ρ A hl9 hx hb hml hne hr hlk hown hts hX hA hR hL hlen)
def am_MtT (S : am_Sy) (M : am_Me) (as : List Value) (σ : am_S) (post : Option Value → am_S → Prop) (postT : am_S → Prop) (X : String) : Prop := ∀ (l : Launch), l.stackTraces = false → ∀ (D : va_G) (ca : Nat → ClassId) (ρ : Nat → Nat) (sz : Nat),
  MetFree l (am_nm M) (headSpec (am_wm S M) (am_rm M)) (am_Pc S D ca ρ as σ sz) (fun _ _ _ _ _ => True) (am_QT S D ca ρ (am_Ar S ρ sz) post postT X)
theorem am_MT_of {S : am_Sy} {M : am_Me} {as : List Value} {σ : am_S} {post : Option Value → am_S → Prop} {postT : am_S → Prop} {X : String} (hM : am_ok S M) (hn : (am_en as).length ≤ am_mx M) (k : am_A S M (0, am_ent as (am_mx M), [], σ) (am_tF S post postT X)) : am_MtT S M as σ post postT X := by
  intro l hl9 D ca ρ sz
  refine MetFree.of_bodyS (code := am_cc M) (maxLocals := am_mx M) (ret := am_rt M) hM.1 ?_ ?_
  · intro args s m h hn'
    obtain ⟨meth, c, h1, h2, h3, h4, h5, h6, -, -⟩ := Cond.code_spec hn' (atoms_spec (ws := am_wm S M) h _ List.mem_cons_self)
    exact ⟨meth, c, h1, h2, h3, h4, h5, h6⟩
  · intro p e s m args below meth c s₁ B hml hv _
    obtain ⟨rfl, hsz, hP, hD, hX⟩ := hv
    have hh0 : s₁.heap = s.heap := by rw [B.state]; rfl
    have hts := atoms_spec (ws := am_wm S M) B.pre
    have hown : s.vm.findClass (am_nm M).cls = some m.cls := findClass_of_methodNamed B.named
    rw [hM.2.1] at hown
    subst hsz
    have hl := lv_entry (as.map (am_v ρ)) (n := am_mx M) (by rw [am_en_len]; exact hn)
    have hL := am_ent_ok (ρ := ρ) hn hl
    have hW := k p l e s m _ below meth c s.heap [] _ D ca ρ (am_Ar S ρ s.heap.size) hl9 B.exec B.bytes hml (B.noHandlers (hts _ List.mem_cons_self)) B.returns B.notSynchronized hown (fun w hw => hts w (List.mem_cons_of_mem _ hw)) hX (fun q hq => Or.inr hq) ⟨hP, am_D_ar hD, va_S.rf⟩ hL (by simp [am_ent]; omega)
    have hg := lg_entry_eq m (as.map (am_v ρ)) (am_mx M)
    have hW : W p l e (am_rm M) s m (as.map (am_v ρ)).toArray below meth c s.heap [] 0 0 (am_tF S post postT X below (as.map (am_v ρ)).toArray s (am_Ar S ρ s.heap.size) D ca ρ) (entryFrame m (as.map (am_v ρ)).toArray (am_mx M)) := by rw [hg]; exact hW
    obtain ⟨t, a1, o, b1, b2, b3⟩ := hW s₁ hh0 (Stand.of_body B)
    exact ⟨t, o, a1, b1, b2, b3⟩
theorem am_isref {args : Array Value} {s : State} {C n d : String} {v : Value} {A : Nat → Prop} (hv : v.isRef = true) (h : va_Z C n d v A s s.heap) : (Cond.isRef (.static C n d)).before args s = true := by
  obtain ⟨cf, kf, fi, f, a, cell, h1, h2, h3, h4, h5, h6, h7, h8⟩ := h
  have he : (Term.static C n d).eval args s none [] s = some v := by
    simp [Term.eval, State.fieldNamed?, h1, h2, h4, h5, h6, h7]
  cases v <;> simp [Value.isRef] at hv <;> simp [Cond.before, Cond.holds, Cond.value, he]
def th_nm : List String := ["java/lang/RuntimeException", "java/lang/Exception"]
set_option maxHeartbeats 4000000 in
theorem am_throw {S : am_Sy} {M : am_Me} {pc jn ic : Nat} {L : List (Option Value)} {st : List Value} {σ : am_S} {post : Option Value → am_S → Prop} {postT : am_S → Prop} {X : String} {x0 x1 x2 x3 : am_X} (hM : am_ok S M)
    (h0 : (am_cd M)[pc]? = some (some (.new jn, 3, x0))) (h3 : (am_cd M)[pc + 3]? = some (some (.dup, 1, x1))) (h4 : (am_cd M)[pc + 3 + 1]? = some (some (.invokespecial ic, 3, x2))) (h7 : (am_cd M)[pc + 3 + 1 + 3]? = some (some (.athrow, 1, x3)))
    (hX : Bundle.fit X = true) (w1 : Cond.classLink (am_yl M).1 jn X ∈ am_tw S) (w2 : Cond.instantiable X 6 ∈ am_tw S) (w3 : Cond.initialized X ∈ am_tw S)
    (hat : ∀ a ∈ Bundle.ownAtoms0 (am_yl M).1 ic X th_nm, a ∈ am_tw S ∨ a = .isRef (.static Bundle.tN "UNASSIGNED_STACK" Bundle.steD) ∨ a = .isRef (.static Bundle.tN "SUPPRESSED_SENTINEL" Bundle.listD))
    (hy1 : (Bundle.tN, "UNASSIGNED_STACK", Bundle.steD) ∈ am_ys S) (hy2 : (Bundle.tN, "SUPPRESSED_SENTINEL", Bundle.listD) ∈ am_ys S) (hst : st = [])
    (hr1 : 1 ≤ (am_rm M).cells) (hr2 : 6 ≤ (am_rm M).slots) (hr3 : 5 < (am_rm M).frames) (hr4 : 81 ≤ (am_rm M).locals) (hp : postT σ) : am_A S M (pc, L, st, σ) (am_tF S post postT X) := by
  subst hst
  intro p l e s m args below meth c H locs ls D ca ρ A hl9 hx hb hml hne hr hlk hown hts hX0 hA hR hL hlen
  obtain ⟨u1, hu1, hz1⟩ := hX0.2.2.2.2 _ hy1
  obtain ⟨u2, hu2, hz2⟩ := hX0.2.2.2.2 _ hy2
  have hout : ∀ (q : Nat) (y : ExceptionTableEntry), y ∈ c.exceptionTable.toList → covers y q = false := by
    intro q y hy
    have : c.exceptionTable.toList = [] := by simpa using hne
    rw [this] at hy
    cases hy
  have hw : ∀ a ∈ Bundle.ownAtoms0 (am_yl M).1 ic X th_nm, a.before args s = true := by
    intro a ha
    rcases hat a ha with h | rfl | rfl
    · exact hts a h
    · exact am_isref hu1 hz1
    · exact am_isref hu2 hz2
  refine W.newc hx hb hown (hts _ w1) (hts _ w2) (hts _ w3) rfl (hM.2.2.2.2.2 pc _ h0).1 (by omega) (by omega) (fun cC kC q1 q2 q3 q4 => ?_)
  refine W.eq (g2 := F0 m (pc + 3) ls [.ref H.size]) rfl ?_
  refine lv_dup hx hb (hM.2.2.2.2.2 (pc + 3) _ h3).1 rfl ?_
  refine wt_ctor0 (A := A) hx hb hl9 hown hX (by decide) hw hR.2.2.2.2 hz1 (cX := cC) (kX := kC) q1 q2 (by simp [freshCell]) hR.2.2.1 (hL.1.trans (hlen.trans hml.symm)) (hM.2.2.2.2.2 (pc + 3 + 1) _ h4).1 (by simpa [th_nm] using hr3) (by simp [th_nm, Value.category]; omega) (fun H1 ce locs1 e1 e2 e3 e4 e5 e6 => ?_)
  refine wt_athrow hx hb (hout _) (hM.2.2.2.2.2 (pc + 3 + 1 + 3) _ h7).1 hlk (fun t g1 g2 g3 g4 g5 => ?_)
  have hold : ∀ q : Nat, q < H.size → H1[q]? = H[q]? := by
    intro q hq
    rw [e2 q (Nat.ne_of_lt hq), Array.getElem?_push]
    simp [Nat.ne_of_lt hq]
  refine ⟨.threw H.size, g2, g3, Or.inr ⟨H.size, σ, locs1, ce, rfl, hp, ?_, ⟨?_, ?_⟩, by rw [g1]; exact e3, e5, by rw [e4]; exact q1, hR.2.2.1, g4, g5, ?_⟩⟩
  · rw [g1]
    exact hR.1.kept (fun k q hk => hold _ (hR.1 k q hk).lt)
  · rw [g1, e1]
    simp
    have := hR.2.2.1
    omega
  · intro q h1 h2
    rw [g1, hold q (Nat.lt_of_lt_of_le h1 hR.2.2.1)]
    exact hR.2.2.2.1 q h1 h2
  · intro y hy
    rcases e6 y hy with h | h
    · exact hR.2.2.2.2 y h
    · rw [h]
      exact hA _ hR.2.2.1
end
section
/-! checks by program: a class's links and a method's code, over a list of words and the places of the words in it -/
def am_in (tl : List Cond) (h : Nat) (w : Cond) : Bool := decide (tl[h]? = some w)
theorem am_in_g {tl : List Cond} {h : Nat} {w : Cond} (h1 : am_in tl h w = true) (h2 : goodWord w = true) : w ∈ tl.filter goodWord := List.mem_filter.mpr ⟨List.mem_of_getElem? (of_decide_eq_true h1), h2⟩
theorem am_in_n {tl : List Cond} {h : Nat} {w : Cond} (h1 : am_in tl h w = true) (h2 : am_nest w = true) : w ∈ tl.filter am_nest := List.mem_filter.mpr ⟨List.mem_of_getElem? (of_decide_eq_true h1), h2⟩
def am_kB (R : String) (tl : List Cond) : List (Nat × Value) → List Nat → Bool
  | [], _ => true
  | (n, .int v) :: r, h :: hs => am_in tl h (.constant R n v) && am_kB R tl r hs
  | (n, .long v) :: r, h :: hs => am_in tl h (.constantLong R n v) && am_kB R tl r hs
  | _, _ => false
def am_k1 (R : String) (tw : List Cond) (q : Nat × Value) : Prop := match q.2 with
  | .int v => Cond.constant R q.1 v ∈ tw
  | .long v => Cond.constantLong R q.1 v ∈ tw
  | _ => False
theorem am_kB_all {R : String} {tl : List Cond} : ∀ (l : List (Nat × Value)) (hs : List Nat), am_kB R tl l hs = true → ∀ q ∈ l, am_k1 R (tl.filter goodWord) q := by
  intro l
  induction l with
  | nil => intro hs _ q hq; cases hq
  | cons a r ih =>
    intro hs hb q hq
    obtain ⟨n, v⟩ := a
    cases hs with
    | nil => cases v <;> cases hb
    | cons h hs =>
      cases v with
      | int v =>
        simp only [am_kB, Bool.and_eq_true] at hb
        rcases List.mem_cons.mp hq with e | hq
        · subst e
          exact am_in_g hb.1 rfl
        · exact ih hs hb.2 q hq
      | long v =>
        simp only [am_kB, Bool.and_eq_true] at hb
        rcases List.mem_cons.mp hq with e | hq
        · subst e
          exact am_in_g hb.1 rfl
        · exact ih hs hb.2 q hq
      | _ => cases hb
theorem am_kB_ok {Y : am_Y} {tl : List Cond} {hs : List Nat} (h : am_kB Y.1 tl Y.2.1 hs = true) : am_kok Y (tl.filter goodWord) := am_kB_all _ hs h
def am_kdB (kind : Nat) (d : String) : Bool := match kind with
  | 0 => decide (d = "I")
  | 1 => decide (d = "J")
  | 2 => true
  | 3 => decide (d = "Z")
  | _ => false
theorem am_kdB_ok {kind : Nat} {d : String} (h : am_kdB kind d = true) : am_kd kind d := by
  match kind, h with
  | 0, h => exact (of_decide_eq_true (p := d = "I") h : d = "I")
  | 1, h => exact (of_decide_eq_true (p := d = "J") h : d = "J")
  | 2, _ => exact trivial
  | 3, h => exact (of_decide_eq_true (p := d = "Z") h : d = "Z")
  | n + 4, h => cases h
def am_f1 (R : String) (cl : List vw_C) (tl : List Cond) (host : String) (q : Nat × Nat × Nat × Nat × Bool) (h : Nat) : Bool := match cl[q.2.1]? with
  | none => false
  | some r => decide (q.2.2.1 < r.2.2) && decide ((r.2.1 q.2.2.1).1 = r.1) && (decide (q.2.2.2.1 = 2) || decide ((r.2.1 q.2.2.1).2.2.2 = false)) && am_kdB q.2.2.2.1 (r.2.1 q.2.2.1).2.2.1 &&
    (match q.2.2.2.2 with
      | true => am_in tl h (.fieldLinkNest R q.1 r.1 (r.2.1 q.2.2.1).2.1 (r.2.1 q.2.2.1).2.2.1 host)
      | false => am_in tl h (.fieldLink R q.1 r.1 (r.2.1 q.2.2.1).2.1 (r.2.1 q.2.2.1).2.2.1))
def am_fB (R : String) (cl : List vw_C) (tl : List Cond) (host : String) : List (Nat × Nat × Nat × Nat × Bool) → List Nat → Bool
  | [], _ => true
  | q :: r, h :: hs => am_f1 R cl tl host q h && am_fB R cl tl host r hs
  | _ :: _, [] => false
theorem am_f1_ok {R : String} {cl : List vw_C} {tl : List Cond} {host : String} {q : Nat × Nat × Nat × Nat × Bool} {h : Nat} (hb : am_f1 R cl tl host q h = true) : ∃ r : vw_C, cl[q.2.1]? = some r ∧ q.2.2.1 < r.2.2 ∧ (r.2.1 q.2.2.1).1 = r.1 ∧ (q.2.2.2.1 ≠ 2 → (r.2.1 q.2.2.1).2.2.2 = false) ∧ am_kd q.2.2.2.1 (r.2.1 q.2.2.1).2.2.1 ∧
    (q.2.2.2.2 = true → Cond.fieldLinkNest R q.1 r.1 (r.2.1 q.2.2.1).2.1 (r.2.1 q.2.2.1).2.2.1 host ∈ tl.filter am_nest) ∧ (q.2.2.2.2 = false → Cond.fieldLink R q.1 r.1 (r.2.1 q.2.2.1).2.1 (r.2.1 q.2.2.1).2.2.1 ∈ tl.filter goodWord) := by
  obtain ⟨n, ci, j, kind, b⟩ := q
  unfold am_f1 at hb
  split at hb
  · cases hb
  · rename_i r hr
    simp only [Bool.and_eq_true, Bool.or_eq_true, decide_eq_true_eq] at hb
    obtain ⟨⟨⟨⟨b1, b2⟩, b3⟩, b4⟩, b5⟩ := hb
    refine ⟨r, hr, b1, b2, fun h2 => b3.resolve_left h2, am_kdB_ok b4, fun e => ?_, fun e => ?_⟩
    · dsimp only at e
      subst e
      exact am_in_n b5 rfl
    · dsimp only at e
      subst e
      exact am_in_g b5 rfl
theorem am_fB_all {R : String} {cl : List vw_C} {tl : List Cond} {host : String} : ∀ (l : List (Nat × Nat × Nat × Nat × Bool)) (hs : List Nat), am_fB R cl tl host l hs = true → ∀ q ∈ l, ∃ h, am_f1 R cl tl host q h = true
  | [], _, _, q, hq => by cases hq
  | a :: r, h :: hs, hb, q, hq => by
    simp only [am_fB, Bool.and_eq_true] at hb
    rcases List.mem_cons.mp hq with e | hq
    · subst e
      exact ⟨h, hb.1⟩
    · exact am_fB_all r hs hb.2 q hq
  | _ :: _, [], hb, _, _ => by cases hb
theorem am_fB_ok {Y : am_Y} {cl : List vw_C} {tl : List Cond} {host : String} {hs : List Nat} (h : am_fB Y.1 cl tl host Y.2.2.1 hs = true) : am_fok Y cl (tl.filter goodWord) (tl.filter am_nest) host := by
  intro q hq
  obtain ⟨k, hk⟩ := am_fB_all _ hs h q hq
  exact am_f1_ok hk
def am_s1 (R : String) (zs : List (Nat × String × String × String)) (tl : List Cond) (host : String) (q : Nat × Nat × Nat × Bool) (h : Nat) : Bool := match zs[q.2.2.1]? with
  | none => false
  | some r => decide (r.1 = q.2.1) && (match q.2.2.2 with
      | true => am_in tl h (.fieldLinkNest R q.1 r.2.1 r.2.2.1 r.2.2.2 host)
      | false => am_in tl h (.fieldLink R q.1 r.2.1 r.2.2.1 r.2.2.2))
def am_sB (R : String) (zs : List (Nat × String × String × String)) (tl : List Cond) (host : String) : List (Nat × Nat × Nat × Bool) → List Nat → Bool
  | [], _ => true
  | q :: r, h :: hs => am_s1 R zs tl host q h && am_sB R zs tl host r hs
  | _ :: _, [] => false
theorem am_sB_all {R : String} {zs : List (Nat × String × String × String)} {tl : List Cond} {host : String} : ∀ (l : List (Nat × Nat × Nat × Bool)) (hs : List Nat), am_sB R zs tl host l hs = true → ∀ q ∈ l, ∃ h, am_s1 R zs tl host q h = true
  | [], _, _, q, hq => by cases hq
  | a :: r, h :: hs, hb, q, hq => by
    simp only [am_sB, Bool.and_eq_true] at hb
    rcases List.mem_cons.mp hq with e | hq
    · subst e
      exact ⟨h, hb.1⟩
    · exact am_sB_all r hs hb.2 q hq
  | _ :: _, [], hb, _, _ => by cases hb
theorem am_sB_ok {Y : am_Y} {zs : List (Nat × String × String × String)} {tl : List Cond} {host : String} {hs : List Nat} (h : am_sB Y.1 zs tl host Y.2.2.2 hs = true) : am_sok Y zs (tl.filter goodWord) (tl.filter am_nest) host := by
  intro q hq
  obtain ⟨k, hk⟩ := am_sB_all _ hs h q hq
  obtain ⟨n, kc, si, b⟩ := q
  unfold am_s1 at hk
  split at hk
  · cases hk
  · rename_i r hr
    simp only [Bool.and_eq_true, decide_eq_true_eq] at hk
    refine ⟨r, hr, hk.1, fun e => ?_, fun e => ?_⟩
    · dsimp only at e
      subst e
      exact am_in_n hk.2 rfl
    · dsimp only at e
      subst e
      exact am_in_g hk.2 rfl
def am_cB (Y : am_Y) (cc : ByteArray) : Nat → List (Option am_I) → Bool
  | _, [] => true
  | pc, none :: r => am_cB Y cc (pc + 1) r
  | pc, some q :: r => decide (decode cc pc = .ok (q.1, q.2.1)) && am_ck Y pc q.1 q.2.2 && am_cB Y cc (pc + 1) r
theorem am_cB_all {Y : am_Y} {cc : ByteArray} : ∀ (l : List (Option am_I)) (p0 : Nat), am_cB Y cc p0 l = true → ∀ (n : Nat) (q : am_I), l[n]? = some (some q) → decode cc (p0 + n) = .ok (q.1, q.2.1) ∧ am_ck Y (p0 + n) q.1 q.2.2 = true
  | [], _, _, n, q, hq => by simp at hq
  | none :: r, p0, hb, n, q, hq => by
    match n, hq with
    | 0, hq => simp at hq
    | n + 1, hq =>
      have h1 := am_cB_all r (p0 + 1) hb n q (by simpa using hq)
      rw [show p0 + 1 + n = p0 + (n + 1) by omega] at h1
      exact h1
  | some a :: r, p0, hb, n, q, hq => by
    simp only [am_cB, Bool.and_eq_true, decide_eq_true_eq] at hb
    match n, hq with
    | 0, hq =>
      simp at hq
      subst hq
      exact hb.1
    | n + 1, hq =>
      have h1 := am_cB_all r (p0 + 1) hb.2 n q (by simpa using hq)
      rw [show p0 + 1 + n = p0 + (n + 1) by omega] at h1
      exact h1
theorem am_ok_of {S : am_Sy} {M : am_Me} (h1 : plainName (am_nm M).cls = true) (h2 : (am_nm M).cls = (am_yl M).1) (h3 : am_kok (am_yl M) (am_tw S)) (h4 : am_fok (am_yl M) (am_cl S) (am_tw S) (am_nn S) (am_ho S)) (h5 : am_sok (am_yl M) (am_zs S) (am_tw S) (am_nn S) (am_ho S)) (h6 : am_cB (am_yl M) (am_cc M) 0 (am_cd M) = true) : am_ok S M :=
  ⟨h1, h2, h3, h4, h5, fun pc q hq => by
    have := am_cB_all _ 0 h6 pc q hq
    rw [Nat.zero_add] at this
    exact this⟩
/-! call sites -/
def am_lB (S : am_Sy) (tl : List Cond) (M M2 : am_Me) (idx : Nat) (nest : Bool) (n h1 h2 h3 : Nat) : Bool :=
  (match nest with
    | true => am_in tl h1 (.methodLinkNest (am_yl M).1 idx (am_nm M2) (am_ho S))
    | false => am_in tl h1 (.methodLink (am_yl M).1 idx (am_nm M2))) && am_in tl h2 (.code (am_nm M2) (am_cc M2) (am_mx M2) (am_rt M2)) && am_in tl h3 (.initialized (am_nm M2).cls) &&
  decide ((am_nm M2).cls ≠ "java/lang/invoke/MethodHandle" ∧ (am_nm M2).cls ≠ "java/lang/invoke/VarHandle" ∧ (parseMethodDescriptor (am_nm M2).desc).map (fun d => d.parameters.length) = some n) &&
  decide ((am_rm M2).frames + 1 ≤ (am_rm M).frames ∧ (am_rm M2).cells = 0 ∧ (am_rm M2).slots = 0 ∧ 8 + (am_mx M2 + 11) + (am_rm M2).locals ≤ (am_rm M).locals)
theorem am_lB_ok {S : am_Sy} {tl : List Cond} {M M2 : am_Me} {idx : Nat} {nest : Bool} {n h1 h2 h3 : Nat} (ht : am_tw S = tl.filter goodWord) (hn : am_nn S = tl.filter am_nest) (h : am_lB S tl M M2 idx nest n h1 h2 h3 = true) : am_lk S M M2 idx nest n := by
  unfold am_lB at h
  simp only [Bool.and_eq_true, decide_eq_true_eq] at h
  obtain ⟨⟨⟨⟨b1, b2⟩, b3⟩, b4⟩, b5⟩ := h
  refine ⟨fun e => ?_, fun e => ?_, by rw [ht]; exact am_in_g b2 rfl, by rw [ht]; exact am_in_g b3 rfl, b4, b5.1, b5.2.1, b5.2.2.1, b5.2.2.2⟩
  · subst e
    rw [ht]
    exact am_in_g b1 rfl
  · subst e
    rw [hn]
    exact am_in_n b1 rfl
def am_okY (S : am_Sy) (Y : am_Y) : Prop := am_kok Y (am_tw S) ∧ am_fok Y (am_cl S) (am_tw S) (am_nn S) (am_ho S) ∧ am_sok Y (am_zs S) (am_tw S) (am_nn S) (am_ho S)
theorem am_ok_ofY {S : am_Sy} {M : am_Me} {Y : am_Y} {cd : List (Option am_I)} (h1 : plainName (am_nm M).cls = true) (h2 : (am_nm M).cls = Y.1) (hY : am_yl M = Y) (hc : am_cd M = cd) (h : am_okY S Y) (h6 : am_cB Y (am_cc M) 0 cd = true) : am_ok S M := by
  subst hY
  subst hc
  exact am_ok_of h1 h2 h.1 h.2.1 h.2.2 h6
end
section
abbrev xN : am_X := (.null, 0, 0, 0)
abbrev xI (n : Int32) : am_X := (.int n, 0, 0, 0)
abbrev xL (n : Int64) : am_X := (.long n, 0, 0, 0)
abbrev xJ (t : Nat) : am_X := (.null, t, 0, 0)
abbrev xF (a b k : Nat) : am_X := (.null, a, b, k)
abbrev xS (a b : Nat) : am_X := (.ref a, a, b, 0)
theorem am_arr_up {sh : Nat → am_C} {a b k : Nat} {ty : FieldType} (hw : a ≤ b) (h : am_arr sh a k ty = true) : am_arr sh b k ty = true := by
  unfold am_arr at h ⊢
  rw [Bool.and_eq_true] at h ⊢
  exact ⟨decide_eq_true (Nat.lt_of_lt_of_le (of_decide_eq_true h.1) hw), h.2⟩
theorem am_ri_w {N : Nat} {cst : Nat → Nat → Int32} {σ : am_S} {k j : Nat} (h : k < N) : am_ri N cst σ k j = σ.2.1 k j := by simp [am_ri, h]
theorem am_ri_s {N : Nat} {cst : Nat → Nat → Int32} {σ : am_S} {k j : Nat} (h : ¬ k < N) : am_ri N cst σ k j = cst k j := by simp [am_ri, h]
theorem am_tg_of {pc t : Nat} {o : Int} (h : (pc : Int) + o = (t : Int)) : am_tg pc o = t := by
  unfold am_tg
  rw [h]
  rfl
/-! rows: one instruction each -/
def am_I1 (S : am_Sy) (M : am_Me) (pc len : Nat) (i : Instr) (x : am_X) : Prop := am_sys S ∧ am_ok S M ∧ (am_cd M)[pc]? = some (some (i, len, x))
section AMR
variable {S : am_Sy} {M : am_Me} {pc t : Nat} {L L' : List (Option Value)} {r : List Value} {σ : am_S} {F : am_Fn} {x : am_X}
theorem am_one {i : Instr} {len : Nat} {d : List Nat} {st : List Value} {ob : List Prop} {d' : List Nat} {f' : am_F} (i1 : am_I1 S M pc len i x) (h : am_step S (i, len, x) d (pc, L, st, σ) = some (ob, d', f')) (ho : am_all ob) (k : am_A S M f' F) : am_A S M (pc, L, st, σ) F := am_A_step i1.1 i1.2.1 (f := (pc, L, st, σ)) i1.2.2 h ho k
theorem a_iconst {n : Int} {v : Int32} (i : am_I1 S M pc 1 (.iconst n) (xI v)) (kk : am_A S M (pc + 1, L, .int v :: r, σ) F) : am_A S M (pc, L, r, σ) F := am_one (ob := []) (d' := []) (d := []) i rfl (trivial) kk
theorem a_bipush {n : Int} {v : Int32} (i : am_I1 S M pc 2 (.bipush n) (xI v)) (kk : am_A S M (pc + 2, L, .int v :: r, σ) F) : am_A S M (pc, L, r, σ) F := am_one (ob := []) (d' := []) (d := []) i rfl (trivial) kk
theorem a_sipush {n : Int} {v : Int32} (i : am_I1 S M pc 3 (.sipush n) (xI v)) (kk : am_A S M (pc + 3, L, .int v :: r, σ) F) : am_A S M (pc, L, r, σ) F := am_one (ob := []) (d' := []) (d := []) i rfl (trivial) kk
theorem a_lconst {n : Fin 2} {v : Int64} (i : am_I1 S M pc 1 (.lconst n) (xL v)) (kk : am_A S M (pc + 1, L, .long v :: r, σ) F) : am_A S M (pc, L, r, σ) F := am_one (ob := []) (d' := []) (d := []) i rfl (trivial) kk
theorem a_ldc2 {n : Nat} {v : Int64} (i : am_I1 S M pc 3 (.ldc2_w n) (xL v)) (kk : am_A S M (pc + 3, L, .long v :: r, σ) F) : am_A S M (pc, L, r, σ) F := am_one (ob := []) (d' := []) (d := []) i rfl (trivial) kk
theorem a_iload {k : Nat} {v : Int32} (i : am_I1 S M pc 2 (.iload k) x) (hl : L[k]? = some (some (.int v))) (kk : am_A S M (pc + 2, L, .int v :: r, σ) F) : am_A S M (pc, L, r, σ) F := am_one (ob := []) (d' := []) (d := []) i (by simp only [am_step, am_p, am_ldi, hl]) (trivial) kk
theorem a_iload_n {k : Fin 4} {v : Int32} (i : am_I1 S M pc 1 (.iload_n k) x) (hl : L[(k : Nat)]? = some (some (.int v))) (kk : am_A S M (pc + 1, L, .int v :: r, σ) F) : am_A S M (pc, L, r, σ) F := am_one (ob := []) (d' := []) (d := []) i (by simp only [am_step, am_p, am_ldi, hl]) (trivial) kk
theorem a_istore {k : Nat} {v : Int32} (i : am_I1 S M pc 2 (.istore k) x) (hl : am_st1 L k (.int v) = some L') (kk : am_A S M (pc + 2, L', r, σ) F) : am_A S M (pc, L, .int v :: r, σ) F := am_one (ob := []) (d' := []) (d := []) i (by simp only [am_step, am_p, am_q, am_sv1, hl]) (trivial) kk
theorem a_istore_n {k : Fin 4} {v : Int32} (i : am_I1 S M pc 1 (.istore_n k) x) (hl : am_st1 L (k : Nat) (.int v) = some L') (kk : am_A S M (pc + 1, L', r, σ) F) : am_A S M (pc, L, .int v :: r, σ) F := am_one (ob := []) (d' := []) (d := []) i (by simp only [am_step, am_p, am_q, am_sv1, hl]) (trivial) kk
theorem a_lload {k : Nat} {v : Int64} (i : am_I1 S M pc 2 (.lload k) x) (hl : L[k]? = some (some (.long v))) (kk : am_A S M (pc + 2, L, .long v :: r, σ) F) : am_A S M (pc, L, r, σ) F := am_one (ob := []) (d' := []) (d := []) i (by simp only [am_step, am_p, am_ldl, hl]) (trivial) kk
theorem a_lload_n {k : Fin 4} {v : Int64} (i : am_I1 S M pc 1 (.lload_n k) x) (hl : L[(k : Nat)]? = some (some (.long v))) (kk : am_A S M (pc + 1, L, .long v :: r, σ) F) : am_A S M (pc, L, r, σ) F := am_one (ob := []) (d' := []) (d := []) i (by simp only [am_step, am_p, am_ldl, hl]) (trivial) kk
theorem a_lstore {k : Nat} {v : Int64} (i : am_I1 S M pc 2 (.lstore k) x) (hl : am_st2 L k (.long v) = some L') (kk : am_A S M (pc + 2, L', r, σ) F) : am_A S M (pc, L, .long v :: r, σ) F := am_one (ob := []) (d' := []) (d := []) i (by simp only [am_step, am_p, am_q, am_sv2, hl]) (trivial) kk
theorem a_lstore_n {k : Fin 4} {v : Int64} (i : am_I1 S M pc 1 (.lstore_n k) x) (hl : am_st2 L (k : Nat) (.long v) = some L') (kk : am_A S M (pc + 1, L', r, σ) F) : am_A S M (pc, L, .long v :: r, σ) F := am_one (ob := []) (d' := []) (d := []) i (by simp only [am_step, am_p, am_q, am_sv2, hl]) (trivial) kk
theorem a_aload {k : Nat} {v : Nat} (i : am_I1 S M pc 2 (.aload k) x) (hl : L[k]? = some (some (.ref v))) (kk : am_A S M (pc + 2, L, .ref v :: r, σ) F) : am_A S M (pc, L, r, σ) F := am_one (ob := []) (d' := []) (d := []) i (by simp only [am_step, am_p, am_lda, hl]) (trivial) kk
theorem a_aload_n {k : Fin 4} {v : Nat} (i : am_I1 S M pc 1 (.aload_n k) x) (hl : L[(k : Nat)]? = some (some (.ref v))) (kk : am_A S M (pc + 1, L, .ref v :: r, σ) F) : am_A S M (pc, L, r, σ) F := am_one (ob := []) (d' := []) (d := []) i (by simp only [am_step, am_p, am_lda, hl]) (trivial) kk
theorem a_astore {k : Nat} {v : Nat} (i : am_I1 S M pc 2 (.astore k) x) (hl : am_st1 L k (.ref v) = some L') (kk : am_A S M (pc + 2, L', r, σ) F) : am_A S M (pc, L, .ref v :: r, σ) F := am_one (ob := []) (d' := []) (d := []) i (by simp only [am_step, am_p, am_q, am_sv1, hl]) (trivial) kk
theorem a_astore_n {k : Fin 4} {v : Nat} (i : am_I1 S M pc 1 (.astore_n k) x) (hl : am_st1 L (k : Nat) (.ref v) = some L') (kk : am_A S M (pc + 1, L', r, σ) F) : am_A S M (pc, L, .ref v :: r, σ) F := am_one (ob := []) (d' := []) (d := []) i (by simp only [am_step, am_p, am_q, am_sv1, hl]) (trivial) kk
theorem a_iinc {k : Nat} {n : Int} {u v : Int32} (i : am_I1 S M pc 3 (.iinc k n) (xI u)) (hl : L[k]? = some (some (.int v))) (hs : am_st1 L k (.int (v + u)) = some L') (kk : am_A S M (pc + 3, L', r, σ) F) : am_A S M (pc, L, r, σ) F := am_one (ob := []) (d' := []) (d := []) i (by simp only [am_step, am_p, am_q, am_sv1, hl, hs]) (trivial) kk
theorem a_iadd {a b : Int32} (i : am_I1 S M pc 1 (.iadd) x) (kk : am_A S M (pc + 1, L, .int (a + b) :: r, σ) F) : am_A S M (pc, L, .int b :: .int a :: r, σ) F := am_one (ob := []) (d' := []) (d := []) i rfl (trivial) kk
theorem a_isub {a b : Int32} (i : am_I1 S M pc 1 (.isub) x) (kk : am_A S M (pc + 1, L, .int (a - b) :: r, σ) F) : am_A S M (pc, L, .int b :: .int a :: r, σ) F := am_one (ob := []) (d' := []) (d := []) i rfl (trivial) kk
theorem a_imul {a b : Int32} (i : am_I1 S M pc 1 (.imul) x) (kk : am_A S M (pc + 1, L, .int (a * b) :: r, σ) F) : am_A S M (pc, L, .int b :: .int a :: r, σ) F := am_one (ob := []) (d' := []) (d := []) i rfl (trivial) kk
theorem a_iand {a b : Int32} (i : am_I1 S M pc 1 (.iand) x) (kk : am_A S M (pc + 1, L, .int (a &&& b) :: r, σ) F) : am_A S M (pc, L, .int b :: .int a :: r, σ) F := am_one (ob := []) (d' := []) (d := []) i rfl (trivial) kk
theorem a_ior {a b : Int32} (i : am_I1 S M pc 1 (.ior) x) (kk : am_A S M (pc + 1, L, .int (a ||| b) :: r, σ) F) : am_A S M (pc, L, .int b :: .int a :: r, σ) F := am_one (ob := []) (d' := []) (d := []) i rfl (trivial) kk
theorem a_ixor {a b : Int32} (i : am_I1 S M pc 1 (.ixor) x) (kk : am_A S M (pc + 1, L, .int (a ^^^ b) :: r, σ) F) : am_A S M (pc, L, .int b :: .int a :: r, σ) F := am_one (ob := []) (d' := []) (d := []) i rfl (trivial) kk
theorem a_ishl {a b : Int32} (i : am_I1 S M pc 1 (.ishl) x) (kk : am_A S M (pc + 1, L, .int (a <<< (b &&& 31)) :: r, σ) F) : am_A S M (pc, L, .int b :: .int a :: r, σ) F := am_one (ob := []) (d' := []) (d := []) i rfl (trivial) kk
theorem a_ishr {a b : Int32} (i : am_I1 S M pc 1 (.ishr) x) (kk : am_A S M (pc + 1, L, .int (a >>> (b &&& 31)) :: r, σ) F) : am_A S M (pc, L, .int b :: .int a :: r, σ) F := am_one (ob := []) (d' := []) (d := []) i rfl (trivial) kk
theorem a_ladd {a b : Int64} (i : am_I1 S M pc 1 (.ladd) x) (kk : am_A S M (pc + 1, L, .long (a + b) :: r, σ) F) : am_A S M (pc, L, .long b :: .long a :: r, σ) F := am_one (ob := []) (d' := []) (d := []) i rfl (trivial) kk
theorem a_lsub {a b : Int64} (i : am_I1 S M pc 1 (.lsub) x) (kk : am_A S M (pc + 1, L, .long (a - b) :: r, σ) F) : am_A S M (pc, L, .long b :: .long a :: r, σ) F := am_one (ob := []) (d' := []) (d := []) i rfl (trivial) kk
theorem a_lmul {a b : Int64} (i : am_I1 S M pc 1 (.lmul) x) (kk : am_A S M (pc + 1, L, .long (a * b) :: r, σ) F) : am_A S M (pc, L, .long b :: .long a :: r, σ) F := am_one (ob := []) (d' := []) (d := []) i rfl (trivial) kk
theorem a_land {a b : Int64} (i : am_I1 S M pc 1 (.land) x) (kk : am_A S M (pc + 1, L, .long (a &&& b) :: r, σ) F) : am_A S M (pc, L, .long b :: .long a :: r, σ) F := am_one (ob := []) (d' := []) (d := []) i rfl (trivial) kk
theorem a_lor {a b : Int64} (i : am_I1 S M pc 1 (.lor) x) (kk : am_A S M (pc + 1, L, .long (a ||| b) :: r, σ) F) : am_A S M (pc, L, .long b :: .long a :: r, σ) F := am_one (ob := []) (d' := []) (d := []) i rfl (trivial) kk
theorem a_lxor {a b : Int64} (i : am_I1 S M pc 1 (.lxor) x) (kk : am_A S M (pc + 1, L, .long (a ^^^ b) :: r, σ) F) : am_A S M (pc, L, .long b :: .long a :: r, σ) F := am_one (ob := []) (d' := []) (d := []) i rfl (trivial) kk
theorem a_lshl {a : Int64} {b : Int32} (i : am_I1 S M pc 1 (.lshl) x) (kk : am_A S M (pc + 1, L, .long (a <<< (b.toInt64 &&& 63)) :: r, σ) F) : am_A S M (pc, L, .int b :: .long a :: r, σ) F := am_one (ob := []) (d' := []) (d := []) i rfl (trivial) kk
theorem a_lshr {a : Int64} {b : Int32} (i : am_I1 S M pc 1 (.lshr) x) (kk : am_A S M (pc + 1, L, .long (a >>> (b.toInt64 &&& 63)) :: r, σ) F) : am_A S M (pc, L, .int b :: .long a :: r, σ) F := am_one (ob := []) (d' := []) (d := []) i rfl (trivial) kk
theorem a_lushr {a : Int64} {b : Int32} (i : am_I1 S M pc 1 (.lushr) x) (kk : am_A S M (pc + 1, L, .long ((a.toUInt64 >>> (b.toInt64.toUInt64 &&& Int64.toUInt64 63)).toInt64) :: r, σ) F) : am_A S M (pc, L, .int b :: .long a :: r, σ) F := am_one (ob := []) (d' := []) (d := []) i rfl (trivial) kk
theorem a_lcmp {a b : Int64} (i : am_I1 S M pc 1 (.lcmp) x) (kk : am_A S M (pc + 1, L, .int (lg_cmp a b) :: r, σ) F) : am_A S M (pc, L, .long b :: .long a :: r, σ) F := am_one (ob := []) (d' := []) (d := []) i rfl (trivial) kk
theorem a_i2l {a : Int32} (i : am_I1 S M pc 1 (.i2l) x) (kk : am_A S M (pc + 1, L, .long a.toInt64 :: r, σ) F) : am_A S M (pc, L, .int a :: r, σ) F := am_one (ob := []) (d' := []) (d := []) i rfl (trivial) kk
theorem a_l2i {a : Int64} (i : am_I1 S M pc 1 (.l2i) x) (kk : am_A S M (pc + 1, L, .int a.toInt32 :: r, σ) F) : am_A S M (pc, L, .long a :: r, σ) F := am_one (ob := []) (d' := []) (d := []) i rfl (trivial) kk
theorem a_i2b {a : Int32} (i : am_I1 S M pc 1 (.i2b) x) (kk : am_A S M (pc + 1, L, .int a.toInt8.toInt32 :: r, σ) F) : am_A S M (pc, L, .int a :: r, σ) F := am_one (ob := []) (d' := []) (d := []) i rfl (trivial) kk
theorem a_dup_i {a : Int32} (i : am_I1 S M pc 1 (.dup) x) (kk : am_A S M (pc + 1, L, .int a :: .int a :: r, σ) F) : am_A S M (pc, L, .int a :: r, σ) F := am_one (ob := []) (d' := []) (d := []) i rfl (trivial) kk
theorem a_dup_a {a : Nat} (i : am_I1 S M pc 1 (.dup) x) (kk : am_A S M (pc + 1, L, .ref a :: .ref a :: r, σ) F) : am_A S M (pc, L, .ref a :: r, σ) F := am_one (ob := []) (d' := []) (d := []) i rfl (trivial) kk
theorem a_dup_x1_i {a b : Int32} (i : am_I1 S M pc 1 (.dup_x1) x) (kk : am_A S M (pc + 1, L, .int a :: .int b :: .int a :: r, σ) F) : am_A S M (pc, L, .int a :: .int b :: r, σ) F := am_one (ob := []) (d' := []) (d := []) i rfl (trivial) kk
theorem a_dup_x1_ia {a : Int32} {b : Nat} (i : am_I1 S M pc 1 (.dup_x1) x) (kk : am_A S M (pc + 1, L, .int a :: .ref b :: .int a :: r, σ) F) : am_A S M (pc, L, .int a :: .ref b :: r, σ) F := am_one (ob := []) (d' := []) (d := []) i rfl (trivial) kk
theorem a_dup2_ia {a : Int32} {b : Nat} (i : am_I1 S M pc 1 (.dup2) x) (kk : am_A S M (pc + 1, L, .int a :: .ref b :: .int a :: .ref b :: r, σ) F) : am_A S M (pc, L, .int a :: .ref b :: r, σ) F := am_one (ob := []) (d' := []) (d := []) i rfl (trivial) kk
theorem a_pop_i {a : Int32} (i : am_I1 S M pc 1 (.pop) x) (kk : am_A S M (pc + 1, L, r, σ) F) : am_A S M (pc, L, .int a :: r, σ) F := am_one (ob := []) (d' := []) (d := []) i rfl (trivial) kk
theorem a_pop2_l {a : Int64} (i : am_I1 S M pc 1 (.pop2) x) (kk : am_A S M (pc + 1, L, r, σ) F) : am_A S M (pc, L, .long a :: r, σ) F := am_one (ob := []) (d' := []) (d := []) i rfl (trivial) kk
theorem a_idiv {a b : Int32} (i : am_I1 S M pc 1 (.idiv) x) (h : ¬ b = 0) (kk : am_A S M (pc + 1, L, .int (a / b) :: r, σ) F) : am_A S M (pc, L, .int b :: .int a :: r, σ) F := am_one (ob := [¬ b = 0]) (d' := []) (d := []) i rfl (⟨h, trivial⟩) kk
theorem a_irem {a b : Int32} (i : am_I1 S M pc 1 (.irem) x) (h : ¬ b = 0) (kk : am_A S M (pc + 1, L, .int (a - a / b * b) :: r, σ) F) : am_A S M (pc, L, .int b :: .int a :: r, σ) F := am_one (ob := [¬ b = 0]) (d' := []) (d := []) i rfl (⟨h, trivial⟩) kk
theorem a_goto {n : Int} (i : am_I1 S M pc 3 (.goto n) (xJ t)) (kk : am_A S M (t, L, r, σ) F) : am_A S M (pc, L, r, σ) F := am_one (ob := []) (d' := []) (d := []) i rfl (trivial) kk
theorem a_ift {n : Int} {c : ClassFile.Cond} {a : Int32} (i : am_I1 S M pc 3 (.ifCond c n) (xJ t)) (h : am_cy c a 0) (kk : am_A S M (t, L, r, σ) F) : am_A S M (pc, L, .int a :: r, σ) F := am_one (ob := [am_cy c a 0]) (d' := []) (d := [1]) i rfl (⟨h, trivial⟩) kk
theorem a_iff {n : Int} {c : ClassFile.Cond} {a : Int32} (i : am_I1 S M pc 3 (.ifCond c n) (xJ t)) (h : am_cn c a 0) (kk : am_A S M (pc + 3, L, r, σ) F) : am_A S M (pc, L, .int a :: r, σ) F := am_one (ob := [am_cn c a 0]) (d' := []) (d := [0]) i rfl (⟨h, trivial⟩) kk
theorem a_ict {n : Int} {c : ClassFile.Cond} {a b : Int32} (i : am_I1 S M pc 3 (.if_icmp c n) (xJ t)) (h : am_cy c a b) (kk : am_A S M (t, L, r, σ) F) : am_A S M (pc, L, .int b :: .int a :: r, σ) F := am_one (ob := [am_cy c a b]) (d' := []) (d := [1]) i rfl (⟨h, trivial⟩) kk
theorem a_icf {n : Int} {c : ClassFile.Cond} {a b : Int32} (i : am_I1 S M pc 3 (.if_icmp c n) (xJ t)) (h : am_cn c a b) (kk : am_A S M (pc + 3, L, r, σ) F) : am_A S M (pc, L, .int b :: .int a :: r, σ) F := am_one (ob := [am_cn c a b]) (d' := []) (d := [0]) i rfl (⟨h, trivial⟩) kk
theorem a_tab {df lo hi o : Int} {os : Array Int} {a : Int32} {len : Nat} (j : Nat) (i : am_I1 S M pc len (.tableswitch df lo hi os) x) (ho : os[j]? = some o) (h : a.toInt = lo + (j : Int)) (h2 : lo + (j : Int) ≤ hi) (hg : (pc : Int) + o = (t : Int)) (k : am_A S M (t, L, r, σ) F) : am_A S M (pc, L, .int a :: r, σ) F := by
  have e := am_tg_of hg
  subst e
  exact am_one (d' := []) (ob := [a.toInt = lo + (j : Int), lo + (j : Int) ≤ hi, (pc : Int) + o = (am_tg pc o : Int)]) (d := [j]) i (by simp only [am_step, am_p, am_q, ho]) ⟨h, h2, hg, trivial⟩ k
theorem a_tabd {df lo hi : Int} {os : Array Int} {a : Int32} {len : Nat} (i : am_I1 S M pc len (.tableswitch df lo hi os) x) (h : a.toInt < lo ∨ hi < a.toInt) (hg : (pc : Int) + df = (t : Int)) (k : am_A S M (t, L, r, σ) F) : am_A S M (pc, L, .int a :: r, σ) F := by
  have e := am_tg_of hg
  subst e
  have ho : os[os.size]? = none := by simp
  exact am_one (d' := []) (ob := [a.toInt < lo ∨ hi < a.toInt, (pc : Int) + df = (am_tg pc df : Int)]) (d := [os.size]) i (by simp only [am_step, am_p, am_q, ho]) ⟨h, hg, trivial⟩ k
theorem a_lks {df : Int} {ps : Array (Int × Int)} {q : Int × Int} {a : Int32} {len : Nat} (j : Nat) (i : am_I1 S M pc len (.lookupswitch df ps) x) (ho : ps.toList[j]? = some q) (h : Op.lookupswitch.offset ps.toList df a.toInt = q.2) (hg : (pc : Int) + q.2 = (t : Int)) (k : am_A S M (t, L, r, σ) F) : am_A S M (pc, L, .int a :: r, σ) F := by
  have e := am_tg_of hg
  subst e
  exact am_one (d' := []) (ob := [Op.lookupswitch.offset ps.toList df a.toInt = q.2, (pc : Int) + q.2 = (am_tg pc q.2 : Int)]) (d := [j]) i (by simp only [am_step, am_p, am_q, ho]) ⟨h, hg, trivial⟩ k
theorem a_lksd {df : Int} {ps : Array (Int × Int)} {a : Int32} {len : Nat} (i : am_I1 S M pc len (.lookupswitch df ps) x) (h : Op.lookupswitch.offset ps.toList df a.toInt = df) (hg : (pc : Int) + df = (t : Int)) (k : am_A S M (t, L, r, σ) F) : am_A S M (pc, L, .int a :: r, σ) F := by
  have e := am_tg_of hg
  subst e
  have ho : ps.toList[ps.toList.length]? = none := by simp
  exact am_one (d' := []) (ob := [Op.lookupswitch.offset ps.toList df a.toInt = df, (pc : Int) + df = (am_tg pc df : Int)]) (d := [ps.toList.length]) i (by simp only [am_step, am_p, am_q, ho]) ⟨h, hg, trivial⟩ k
theorem a_get {n ci j kd k : Nat} {v : Value} (i : am_I1 S M pc 3 (.getfield n) (xF ci j kd)) (h : am_has (am_sh S) (am_nw S) k ci j kd = true) (hv : am_gv (am_sh S) σ k j kd = v) (kk : am_A S M (pc + 3, L, v :: r, σ) F) : am_A S M (pc, L, .ref k :: r, σ) F := am_one (ob := [am_has (am_sh S) (am_nw S) k ci j kd = true]) (d' := []) (d := []) i (by subst hv; rfl) (⟨h, trivial⟩) kk
theorem a_puti {n ci j kd k : Nat} {v : Int32} (i : am_I1 S M pc 3 (.putfield n) (xF ci j kd)) (h : am_has (am_sh S) (am_nw S) k ci j kd = true) (h2 : am_fit kd v) (kk : am_A S M (pc + 3, L, r, am_fi σ k j v) F) : am_A S M (pc, L, .int v :: .ref k :: r, σ) F := am_one (ob := [am_has (am_sh S) (am_nw S) k ci j kd = true, am_fit kd v]) (d' := []) (d := []) i rfl (⟨h, h2, trivial⟩) kk
theorem a_putl {n ci j k : Nat} {v : Int64} (i : am_I1 S M pc 3 (.putfield n) (xF ci j 1)) (h : am_has (am_sh S) (am_nw S) k ci j 1 = true) (kk : am_A S M (pc + 3, L, r, am_fl σ k j v) F) : am_A S M (pc, L, .long v :: .ref k :: r, σ) F := am_one (ob := [am_has (am_sh S) (am_nw S) k ci j 1 = true, (1 : Nat) = 1]) (d' := []) (d := []) i rfl (⟨h, rfl, trivial⟩) kk
theorem a_sta {n a b : Nat} (i : am_I1 S M pc 3 (.getstatic n) (xS a b)) (kk : am_A S M (pc + 3, L, .ref a :: r, σ) F) : am_A S M (pc, L, r, σ) F := am_one (ob := []) (d' := []) (d := []) i rfl (trivial) kk
theorem a_len {k b n : Nat} (i : am_I1 S M pc 1 (.arraylength) (xJ b)) (h : am_arr (am_sh S) (am_nt S) k (am_tl.getD b .int) = true) (hn : am_len (am_sh S) k = n) (kk : am_A S M (pc + 1, L, .int (Int32.ofNat n) :: r, σ) F) : am_A S M (pc, L, .ref k :: r, σ) F := am_one (ob := [am_arr (am_sh S) (am_nt S) k (am_tl.getD b .int) = true]) (d' := []) (d := []) i (by subst hn; rfl) (⟨h, trivial⟩) kk
theorem a_ial {k n : Nat} {a : Int32} (i : am_I1 S M pc 1 (.iaload) x) (hw : am_nw S ≤ am_nt S) (h : am_arr (am_sh S) (am_nw S) k .int = true) (hn : am_len (am_sh S) k = n) (hi : vp_in a n) (kk : am_A S M (pc + 1, L, .int (σ.2.1 k a.toNatClampNeg) :: r, σ) F) : am_A S M (pc, L, .int a :: .ref k :: r, σ) F := am_one (ob := [am_arr (am_sh S) (am_nt S) k .int = true, vp_in a (am_len (am_sh S) k)]) (d' := []) (d := []) i (by rw [← am_ri_w (cst := am_cs S) (am_arr_ok h).1]; rfl) (⟨am_arr_up hw h, by rw [hn]; exact hi, trivial⟩) kk
theorem a_ials {k n : Nat} {a : Int32} (i : am_I1 S M pc 1 (.iaload) x) (hk : ¬ k < am_nw S) (h : am_arr (am_sh S) (am_nt S) k .int = true) (hn : am_len (am_sh S) k = n) (hi : vp_in a n) (kk : am_A S M (pc + 1, L, .int (am_cs S k a.toNatClampNeg) :: r, σ) F) : am_A S M (pc, L, .int a :: .ref k :: r, σ) F := am_one (ob := [am_arr (am_sh S) (am_nt S) k .int = true, vp_in a (am_len (am_sh S) k)]) (d' := []) (d := []) i (by rw [← am_ri_s (cst := am_cs S) (σ := σ) hk]; rfl) (⟨h, by rw [hn]; exact hi, trivial⟩) kk
theorem a_bal {k n b : Nat} {a : Int32} (i : am_I1 S M pc 1 (.baload) (xJ b)) (h : am_arr (am_sh S) (am_nw S) k (am_bt b) = true) (hn : am_len (am_sh S) k = n) (hi : vp_in a n) (kk : am_A S M (pc + 1, L, .int (σ.2.1 k a.toNatClampNeg) :: r, σ) F) : am_A S M (pc, L, .int a :: .ref k :: r, σ) F := am_one (ob := [am_arr (am_sh S) (am_nw S) k (am_bt b) = true, vp_in a (am_len (am_sh S) k)]) (d' := []) (d := []) i rfl (⟨h, by rw [hn]; exact hi, trivial⟩) kk
theorem a_lal {k n : Nat} {a : Int32} (i : am_I1 S M pc 1 (.laload) x) (h : am_arr (am_sh S) (am_nw S) k .long = true) (hn : am_len (am_sh S) k = n) (hi : vp_in a n) (kk : am_A S M (pc + 1, L, .long (σ.2.2 k a.toNatClampNeg) :: r, σ) F) : am_A S M (pc, L, .int a :: .ref k :: r, σ) F := am_one (ob := [am_arr (am_sh S) (am_nw S) k .long = true, vp_in a (am_len (am_sh S) k)]) (d' := []) (d := []) i rfl (⟨h, by rw [hn]; exact hi, trivial⟩) kk
theorem a_ias {k n : Nat} {a v : Int32} (i : am_I1 S M pc 1 (.iastore) x) (h : am_arr (am_sh S) (am_nw S) k .int = true) (hn : am_len (am_sh S) k = n) (hi : vp_in a n) (kk : am_A S M (pc + 1, L, r, am_ai σ k a.toNatClampNeg v) F) : am_A S M (pc, L, .int v :: .int a :: .ref k :: r, σ) F := am_one (ob := [am_arr (am_sh S) (am_nw S) k .int = true, vp_in a (am_len (am_sh S) k)]) (d' := []) (d := []) i rfl (⟨h, by rw [hn]; exact hi, trivial⟩) kk
theorem a_bas {k n b : Nat} {a v : Int32} (i : am_I1 S M pc 1 (.bastore) (xJ b)) (h : am_arr (am_sh S) (am_nw S) k (am_bt b) = true) (hn : am_len (am_sh S) k = n) (hi : vp_in a n) (kk : am_A S M (pc + 1, L, r, am_ai σ k a.toNatClampNeg (vp_nar (am_bt b) v)) F) : am_A S M (pc, L, .int v :: .int a :: .ref k :: r, σ) F := am_one (ob := [am_arr (am_sh S) (am_nw S) k (am_bt b) = true, vp_in a (am_len (am_sh S) k)]) (d' := []) (d := []) i rfl (⟨h, by rw [hn]; exact hi, trivial⟩) kk
theorem a_las {k n : Nat} {a : Int32} {v : Int64} (i : am_I1 S M pc 1 (.lastore) x) (h : am_arr (am_sh S) (am_nw S) k .long = true) (hn : am_len (am_sh S) k = n) (hi : vp_in a n) (kk : am_A S M (pc + 1, L, r, am_al σ k a.toNatClampNeg v) F) : am_A S M (pc, L, .long v :: .int a :: .ref k :: r, σ) F := am_one (ob := [am_arr (am_sh S) (am_nw S) k .long = true, vp_in a (am_len (am_sh S) k)]) (d' := []) (d := []) i rfl (⟨h, by rw [hn]; exact hi, trivial⟩) kk
end AMR
end
section
-- ===== PART A: goes FIRST, ahead of the names: the tables' words, and 'selects' of the private methods out of them =====
/-- a private method of a class that the tables say can be made, by its rows of tables_1 -/
def lw_okq (q : MethodName × Nat) : Prop := (q.1.cls ≠ "java/lang/invoke/MethodHandle" ∧ q.1.cls ≠ "java/lang/invoke/VarHandle") ∧ Cond.instantiable q.1.cls q.2 ∈ tables_1 ∧ Cond.privateMethod q.1 ∈ tables_1 ∧ Cond.instanceMethod q.1 ∈ tables_1
theorem lw_p0 : lw_okq (⟨"FrameFinder", "forget", "()V"⟩, 13) := ⟨⟨by decide +kernel, by decide +kernel⟩, List.mem_of_getElem? (i := 24) (by decide +kernel), List.mem_of_getElem? (i := 512) (by decide +kernel), List.mem_of_getElem? (i := 513) (by decide +kernel)⟩
theorem lw_p1 : lw_okq (⟨"FrameFinder", "character", "(III)I"⟩, 13) := ⟨⟨by decide +kernel, by decide +kernel⟩, List.mem_of_getElem? (i := 24) (by decide +kernel), List.mem_of_getElem? (i := 536) (by decide +kernel), List.mem_of_getElem? (i := 537) (by decide +kernel)⟩
theorem lw_p2 : lw_okq (⟨"FrameFinder$Sections", "readHead", "(I)Z"⟩, 11) := ⟨⟨by decide +kernel, by decide +kernel⟩, List.mem_of_getElem? (i := 32) (by decide +kernel), List.mem_of_getElem? (i := 560) (by decide +kernel), List.mem_of_getElem? (i := 561) (by decide +kernel)⟩
theorem lw_p3 : lw_okq (⟨"FrameFinder$Sections", "readHeader", "(II)Z"⟩, 11) := ⟨⟨by decide +kernel, by decide +kernel⟩, List.mem_of_getElem? (i := 32) (by decide +kernel), List.mem_of_getElem? (i := 575) (by decide +kernel), List.mem_of_getElem? (i := 576) (by decide +kernel)⟩
theorem lw_p4 : lw_okq (⟨"FrameFinder$Sections", "readNames", "()Z"⟩, 11) := ⟨⟨by decide +kernel, by decide +kernel⟩, List.mem_of_getElem? (i := 32) (by decide +kernel), List.mem_of_getElem? (i := 585) (by decide +kernel), List.mem_of_getElem? (i := 586) (by decide +kernel)⟩
theorem lw_p5 : lw_okq (⟨"FrameFinder$Sections", "choose", "(III)V"⟩, 11) := ⟨⟨by decide +kernel, by decide +kernel⟩, List.mem_of_getElem? (i := 32) (by decide +kernel), List.mem_of_getElem? (i := 593) (by decide +kernel), List.mem_of_getElem? (i := 594) (by decide +kernel)⟩
theorem lw_p6 : lw_okq (⟨"FrameFinder$Sections", "isCalled", "(IILjava/lang/String;)Z"⟩, 11) := ⟨⟨by decide +kernel, by decide +kernel⟩, List.mem_of_getElem? (i := 32) (by decide +kernel), List.mem_of_getElem? (i := 610) (by decide +kernel), List.mem_of_getElem? (i := 611) (by decide +kernel)⟩
theorem lw_p7 : lw_okq (⟨"FrameFinder$UnitReader", "readHead", "()Z"⟩, 7) := ⟨⟨by decide +kernel, by decide +kernel⟩, List.mem_of_getElem? (i := 175) (by decide +kernel), List.mem_of_getElem? (i := 674) (by decide +kernel), List.mem_of_getElem? (i := 675) (by decide +kernel)⟩
theorem lw_p8 : lw_okq (⟨"FrameFinder$Cursor", "leb", "(Z)J"⟩, 4) := ⟨⟨by decide +kernel, by decide +kernel⟩, List.mem_of_getElem? (i := 38) (by decide +kernel), List.mem_of_getElem? (i := 693) (by decide +kernel), List.mem_of_getElem? (i := 694) (by decide +kernel)⟩
theorem lw_p9 : lw_okq (⟨"FrameFinder$Abbreviations", "readOne", "(LFrameFinder$Cursor;)Z"⟩, 8) := ⟨⟨by decide +kernel, by decide +kernel⟩, List.mem_of_getElem? (i := 181) (by decide +kernel), List.mem_of_getElem? (i := 702) (by decide +kernel), List.mem_of_getElem? (i := 703) (by decide +kernel)⟩
theorem lw_p10 : lw_okq (⟨"FrameFinder$UnitReader", "readEntries", "()Z"⟩, 7) := ⟨⟨by decide +kernel, by decide +kernel⟩, List.mem_of_getElem? (i := 175) (by decide +kernel), List.mem_of_getElem? (i := 737) (by decide +kernel), List.mem_of_getElem? (i := 738) (by decide +kernel)⟩
theorem lw_p11 : lw_okq (⟨"FrameFinder$UnitReader", "endChildren", "()Z"⟩, 7) := ⟨⟨by decide +kernel, by decide +kernel⟩, List.mem_of_getElem? (i := 175) (by decide +kernel), List.mem_of_getElem? (i := 742) (by decide +kernel), List.mem_of_getElem? (i := 743) (by decide +kernel)⟩
theorem lw_p12 : lw_okq (⟨"FrameFinder$UnitReader", "readEntry", "(JIZ)Z"⟩, 7) := ⟨⟨by decide +kernel, by decide +kernel⟩, List.mem_of_getElem? (i := 175) (by decide +kernel), List.mem_of_getElem? (i := 746) (by decide +kernel), List.mem_of_getElem? (i := 747) (by decide +kernel)⟩
theorem lw_p13 : lw_okq (⟨"FrameFinder$UnitReader", "readValue", "(IJ)J"⟩, 7) := ⟨⟨by decide +kernel, by decide +kernel⟩, List.mem_of_getElem? (i := 175) (by decide +kernel), List.mem_of_getElem? (i := 756) (by decide +kernel), List.mem_of_getElem? (i := 757) (by decide +kernel)⟩
theorem lw_p14 : lw_okq (⟨"FrameFinder$ValueReader", "resolve", "(I)V"⟩, 7) := ⟨⟨by decide +kernel, by decide +kernel⟩, List.mem_of_getElem? (i := 266) (by decide +kernel), List.mem_of_getElem? (i := 794) (by decide +kernel), List.mem_of_getElem? (i := 795) (by decide +kernel)⟩
theorem lw_p15 : lw_okq (⟨"FrameFinder$ValueReader", "resolved", "(IIIJ)J"⟩, 7) := ⟨⟨by decide +kernel, by decide +kernel⟩, List.mem_of_getElem? (i := 266) (by decide +kernel), List.mem_of_getElem? (i := 802) (by decide +kernel), List.mem_of_getElem? (i := 803) (by decide +kernel)⟩
def lw_privs_1 : List (MethodName × Nat) := [(⟨"FrameFinder", "forget", "()V"⟩, 13), (⟨"FrameFinder", "character", "(III)I"⟩, 13), (⟨"FrameFinder$Sections", "readHead", "(I)Z"⟩, 11), (⟨"FrameFinder$Sections", "readHeader", "(II)Z"⟩, 11), (⟨"FrameFinder$Sections", "readNames", "()Z"⟩, 11), (⟨"FrameFinder$Sections", "choose", "(III)V"⟩, 11), (⟨"FrameFinder$Sections", "isCalled", "(IILjava/lang/String;)Z"⟩, 11), (⟨"FrameFinder$UnitReader", "readHead", "()Z"⟩, 7), (⟨"FrameFinder$Cursor", "leb", "(Z)J"⟩, 4), (⟨"FrameFinder$Abbreviations", "readOne", "(LFrameFinder$Cursor;)Z"⟩, 8), (⟨"FrameFinder$UnitReader", "readEntries", "()Z"⟩, 7), (⟨"FrameFinder$UnitReader", "endChildren", "()Z"⟩, 7), (⟨"FrameFinder$UnitReader", "readEntry", "(JIZ)Z"⟩, 7), (⟨"FrameFinder$UnitReader", "readValue", "(IJ)J"⟩, 7), (⟨"FrameFinder$ValueReader", "resolve", "(I)V"⟩, 7), (⟨"FrameFinder$ValueReader", "resolved", "(IIIJ)J"⟩, 7)]
theorem lw_r1 : ∀ q ∈ lw_privs_1, lw_okq q := List.forall_mem_cons.mpr ⟨lw_p0, List.forall_mem_cons.mpr ⟨lw_p1, List.forall_mem_cons.mpr ⟨lw_p2, List.forall_mem_cons.mpr ⟨lw_p3, List.forall_mem_cons.mpr ⟨lw_p4, List.forall_mem_cons.mpr ⟨lw_p5, List.forall_mem_cons.mpr ⟨lw_p6, List.forall_mem_cons.mpr ⟨lw_p7, List.forall_mem_cons.mpr ⟨lw_p8, List.forall_mem_cons.mpr ⟨lw_p9, List.forall_mem_cons.mpr ⟨lw_p10, List.forall_mem_cons.mpr ⟨lw_p11, List.forall_mem_cons.mpr ⟨lw_p12, List.forall_mem_cons.mpr ⟨lw_p13, List.forall_mem_cons.mpr ⟨lw_p14, List.forall_mem_cons.mpr ⟨lw_p15, fun _ h => absurd h List.not_mem_nil⟩⟩⟩⟩⟩⟩⟩⟩⟩⟩⟩⟩⟩⟩⟩⟩
theorem lw_p16 : lw_okq (⟨"FrameFinder$ValueReader", "text", "(IIJ)J"⟩, 7) := ⟨⟨by decide +kernel, by decide +kernel⟩, List.mem_of_getElem? (i := 266) (by decide +kernel), List.mem_of_getElem? (i := 806) (by decide +kernel), List.mem_of_getElem? (i := 807) (by decide +kernel)⟩
theorem lw_p17 : lw_okq (⟨"FrameFinder$ValueReader", "textAt", "(IJ)J"⟩, 7) := ⟨⟨by decide +kernel, by decide +kernel⟩, List.mem_of_getElem? (i := 266) (by decide +kernel), List.mem_of_getElem? (i := 810) (by decide +kernel), List.mem_of_getElem? (i := 811) (by decide +kernel)⟩
theorem lw_p18 : lw_okq (⟨"FrameFinder$ValueReader", "wrong", "()J"⟩, 7) := ⟨⟨by decide +kernel, by decide +kernel⟩, List.mem_of_getElem? (i := 266) (by decide +kernel), List.mem_of_getElem? (i := 819) (by decide +kernel), List.mem_of_getElem? (i := 820) (by decide +kernel)⟩
theorem lw_p19 : lw_okq (⟨"FrameFinder$ValueReader", "baseOf", "(II)J"⟩, 7) := ⟨⟨by decide +kernel, by decide +kernel⟩, List.mem_of_getElem? (i := 266) (by decide +kernel), List.mem_of_getElem? (i := 823) (by decide +kernel), List.mem_of_getElem? (i := 824) (by decide +kernel)⟩
theorem lw_p20 : lw_okq (⟨"FrameFinder$ValueReader", "numberAt", "(IJJI)J"⟩, 7) := ⟨⟨by decide +kernel, by decide +kernel⟩, List.mem_of_getElem? (i := 266) (by decide +kernel), List.mem_of_getElem? (i := 827) (by decide +kernel), List.mem_of_getElem? (i := 828) (by decide +kernel)⟩
theorem lw_p21 : lw_okq (⟨"FrameFinder$ValueReader", "address", "(IIJ)J"⟩, 7) := ⟨⟨by decide +kernel, by decide +kernel⟩, List.mem_of_getElem? (i := 266) (by decide +kernel), List.mem_of_getElem? (i := 834) (by decide +kernel), List.mem_of_getElem? (i := 835) (by decide +kernel)⟩
theorem lw_p22 : lw_okq (⟨"FrameFinder$ValueReader", "addressAt", "(IJ)J"⟩, 7) := ⟨⟨by decide +kernel, by decide +kernel⟩, List.mem_of_getElem? (i := 266) (by decide +kernel), List.mem_of_getElem? (i := 838) (by decide +kernel), List.mem_of_getElem? (i := 839) (by decide +kernel)⟩
theorem lw_p23 : lw_okq (⟨"FrameFinder$ValueReader", "lowOf", "(I)J"⟩, 7) := ⟨⟨by decide +kernel, by decide +kernel⟩, List.mem_of_getElem? (i := 266) (by decide +kernel), List.mem_of_getElem? (i := 843) (by decide +kernel), List.mem_of_getElem? (i := 844) (by decide +kernel)⟩
theorem lw_p24 : lw_okq (⟨"FrameFinder$ValueReader", "listPlace", "(IIJ)J"⟩, 7) := ⟨⟨by decide +kernel, by decide +kernel⟩, List.mem_of_getElem? (i := 266) (by decide +kernel), List.mem_of_getElem? (i := 851) (by decide +kernel), List.mem_of_getElem? (i := 852) (by decide +kernel)⟩
theorem lw_p25 : lw_okq (⟨"FrameFinder$ValueReader", "origin", "(IIJ)J"⟩, 7) := ⟨⟨by decide +kernel, by decide +kernel⟩, List.mem_of_getElem? (i := 266) (by decide +kernel), List.mem_of_getElem? (i := 855) (by decide +kernel), List.mem_of_getElem? (i := 856) (by decide +kernel)⟩
theorem lw_p26 : lw_okq (⟨"FrameFinder$ValueReader", "readList", "(I)V"⟩, 7) := ⟨⟨by decide +kernel, by decide +kernel⟩, List.mem_of_getElem? (i := 266) (by decide +kernel), List.mem_of_getElem? (i := 861) (by decide +kernel), List.mem_of_getElem? (i := 862) (by decide +kernel)⟩
theorem lw_p27 : lw_okq (⟨"FrameFinder$ValueReader", "readPiece", "(II)V"⟩, 7) := ⟨⟨by decide +kernel, by decide +kernel⟩, List.mem_of_getElem? (i := 266) (by decide +kernel), List.mem_of_getElem? (i := 865) (by decide +kernel), List.mem_of_getElem? (i := 866) (by decide +kernel)⟩
theorem lw_p28 : lw_okq (⟨"FrameFinder$ValueReader", "addRange", "(JJ)V"⟩, 7) := ⟨⟨by decide +kernel, by decide +kernel⟩, List.mem_of_getElem? (i := 266) (by decide +kernel), List.mem_of_getElem? (i := 870) (by decide +kernel), List.mem_of_getElem? (i := 871) (by decide +kernel)⟩
theorem lw_p29 : lw_okq (⟨"FrameFinder$ValueReader", "rangeEnd", "(IIJ)J"⟩, 7) := ⟨⟨by decide +kernel, by decide +kernel⟩, List.mem_of_getElem? (i := 266) (by decide +kernel), List.mem_of_getElem? (i := 878) (by decide +kernel), List.mem_of_getElem? (i := 879) (by decide +kernel)⟩
theorem lw_p30 : lw_okq (⟨"FrameFinder$LineReader", "readTable", "(IJ)Z"⟩, 15) := ⟨⟨by decide +kernel, by decide +kernel⟩, List.mem_of_getElem? (i := 333) (by decide +kernel), List.mem_of_getElem? (i := 903) (by decide +kernel), List.mem_of_getElem? (i := 904) (by decide +kernel)⟩
theorem lw_p31 : lw_okq (⟨"FrameFinder$LineReader", "readHead", "()Z"⟩, 15) := ⟨⟨by decide +kernel, by decide +kernel⟩, List.mem_of_getElem? (i := 333) (by decide +kernel), List.mem_of_getElem? (i := 911) (by decide +kernel), List.mem_of_getElem? (i := 912) (by decide +kernel)⟩
def lw_privs_2 : List (MethodName × Nat) := [(⟨"FrameFinder$ValueReader", "text", "(IIJ)J"⟩, 7), (⟨"FrameFinder$ValueReader", "textAt", "(IJ)J"⟩, 7), (⟨"FrameFinder$ValueReader", "wrong", "()J"⟩, 7), (⟨"FrameFinder$ValueReader", "baseOf", "(II)J"⟩, 7), (⟨"FrameFinder$ValueReader", "numberAt", "(IJJI)J"⟩, 7), (⟨"FrameFinder$ValueReader", "address", "(IIJ)J"⟩, 7), (⟨"FrameFinder$ValueReader", "addressAt", "(IJ)J"⟩, 7), (⟨"FrameFinder$ValueReader", "lowOf", "(I)J"⟩, 7), (⟨"FrameFinder$ValueReader", "listPlace", "(IIJ)J"⟩, 7), (⟨"FrameFinder$ValueReader", "origin", "(IIJ)J"⟩, 7), (⟨"FrameFinder$ValueReader", "readList", "(I)V"⟩, 7), (⟨"FrameFinder$ValueReader", "readPiece", "(II)V"⟩, 7), (⟨"FrameFinder$ValueReader", "addRange", "(JJ)V"⟩, 7), (⟨"FrameFinder$ValueReader", "rangeEnd", "(IIJ)J"⟩, 7), (⟨"FrameFinder$LineReader", "readTable", "(IJ)Z"⟩, 15), (⟨"FrameFinder$LineReader", "readHead", "()Z"⟩, 15)]
theorem lw_r2 : ∀ q ∈ lw_privs_2, lw_okq q := List.forall_mem_cons.mpr ⟨lw_p16, List.forall_mem_cons.mpr ⟨lw_p17, List.forall_mem_cons.mpr ⟨lw_p18, List.forall_mem_cons.mpr ⟨lw_p19, List.forall_mem_cons.mpr ⟨lw_p20, List.forall_mem_cons.mpr ⟨lw_p21, List.forall_mem_cons.mpr ⟨lw_p22, List.forall_mem_cons.mpr ⟨lw_p23, List.forall_mem_cons.mpr ⟨lw_p24, List.forall_mem_cons.mpr ⟨lw_p25, List.forall_mem_cons.mpr ⟨lw_p26, List.forall_mem_cons.mpr ⟨lw_p27, List.forall_mem_cons.mpr ⟨lw_p28, List.forall_mem_cons.mpr ⟨lw_p29, List.forall_mem_cons.mpr ⟨lw_p30, List.forall_mem_cons.mpr ⟨lw_p31, fun _ h => absurd h List.not_mem_nil⟩⟩⟩⟩⟩⟩⟩⟩⟩⟩⟩⟩⟩⟩⟩⟩
theorem lw_p32 : lw_okq (⟨"FrameFinder$LineReader", "readNames", "(IZ)Z"⟩, 15) := ⟨⟨by decide +kernel, by decide +kernel⟩, List.mem_of_getElem? (i := 333) (by decide +kernel), List.mem_of_getElem? (i := 916) (by decide +kernel), List.mem_of_getElem? (i := 917) (by decide +kernel)⟩
theorem lw_p33 : lw_okq (⟨"FrameFinder$LineReader", "readForms", "()Z"⟩, 15) := ⟨⟨by decide +kernel, by decide +kernel⟩, List.mem_of_getElem? (i := 333) (by decide +kernel), List.mem_of_getElem? (i := 920) (by decide +kernel), List.mem_of_getElem? (i := 921) (by decide +kernel)⟩
theorem lw_p34 : lw_okq (⟨"FrameFinder$LineReader", "readName", "()I"⟩, 15) := ⟨⟨by decide +kernel, by decide +kernel⟩, List.mem_of_getElem? (i := 333) (by decide +kernel), List.mem_of_getElem? (i := 928) (by decide +kernel), List.mem_of_getElem? (i := 929) (by decide +kernel)⟩
theorem lw_p35 : lw_okq (⟨"FrameFinder$LineReader", "readValue", "(I)J"⟩, 15) := ⟨⟨by decide +kernel, by decide +kernel⟩, List.mem_of_getElem? (i := 333) (by decide +kernel), List.mem_of_getElem? (i := 932) (by decide +kernel), List.mem_of_getElem? (i := 933) (by decide +kernel)⟩
theorem lw_p36 : lw_okq (⟨"FrameFinder$LineReader", "readProgram", "()Z"⟩, 15) := ⟨⟨by decide +kernel, by decide +kernel⟩, List.mem_of_getElem? (i := 333) (by decide +kernel), List.mem_of_getElem? (i := 942) (by decide +kernel), List.mem_of_getElem? (i := 943) (by decide +kernel)⟩
theorem lw_p37 : lw_okq (⟨"FrameFinder$LineReader", "restart", "()V"⟩, 15) := ⟨⟨by decide +kernel, by decide +kernel⟩, List.mem_of_getElem? (i := 333) (by decide +kernel), List.mem_of_getElem? (i := 946) (by decide +kernel), List.mem_of_getElem? (i := 947) (by decide +kernel)⟩
theorem lw_p38 : lw_okq (⟨"FrameFinder$LineReader", "special", "(I)V"⟩, 15) := ⟨⟨by decide +kernel, by decide +kernel⟩, List.mem_of_getElem? (i := 333) (by decide +kernel), List.mem_of_getElem? (i := 950) (by decide +kernel), List.mem_of_getElem? (i := 951) (by decide +kernel)⟩
theorem lw_p39 : lw_okq (⟨"FrameFinder$LineReader", "addRow", "(Z)V"⟩, 15) := ⟨⟨by decide +kernel, by decide +kernel⟩, List.mem_of_getElem? (i := 333) (by decide +kernel), List.mem_of_getElem? (i := 954) (by decide +kernel), List.mem_of_getElem? (i := 955) (by decide +kernel)⟩
theorem lw_p40 : lw_okq (⟨"FrameFinder$LineReader", "extended", "()V"⟩, 15) := ⟨⟨by decide +kernel, by decide +kernel⟩, List.mem_of_getElem? (i := 333) (by decide +kernel), List.mem_of_getElem? (i := 962) (by decide +kernel), List.mem_of_getElem? (i := 963) (by decide +kernel)⟩
theorem lw_p41 : lw_okq (⟨"FrameFinder$LineReader", "standard", "(I)V"⟩, 15) := ⟨⟨by decide +kernel, by decide +kernel⟩, List.mem_of_getElem? (i := 333) (by decide +kernel), List.mem_of_getElem? (i := 966) (by decide +kernel), List.mem_of_getElem? (i := 967) (by decide +kernel)⟩
theorem lw_p42 : lw_okq (⟨"FrameFinder$LineReader", "passOperands", "(I)V"⟩, 15) := ⟨⟨by decide +kernel, by decide +kernel⟩, List.mem_of_getElem? (i := 333) (by decide +kernel), List.mem_of_getElem? (i := 971) (by decide +kernel), List.mem_of_getElem? (i := 972) (by decide +kernel)⟩
theorem lw_p43 : lw_okq (⟨"FrameFinder$Symbols", "readOne", "()Z"⟩, 7) := ⟨⟨by decide +kernel, by decide +kernel⟩, List.mem_of_getElem? (i := 387) (by decide +kernel), List.mem_of_getElem? (i := 984) (by decide +kernel), List.mem_of_getElem? (i := 985) (by decide +kernel)⟩
theorem lw_p44 : lw_okq (⟨"java/lang/Throwable", "fillInStackTrace", "(I)Ljava/lang/Throwable;"⟩, 6) := ⟨⟨by decide +kernel, by decide +kernel⟩, List.mem_of_getElem? (i := 1031) (by decide +kernel), List.mem_of_getElem? (i := 1029) (by decide +kernel), List.mem_of_getElem? (i := 1030) (by decide +kernel)⟩
theorem lw_p45 : lw_okq (⟨"FrameFinder$Frames", "firstFunction", "(J)I"⟩, 12) := ⟨⟨by decide +kernel, by decide +kernel⟩, List.mem_of_getElem? (i := 419) (by decide +kernel), List.mem_of_getElem? (i := 1083) (by decide +kernel), List.mem_of_getElem? (i := 1084) (by decide +kernel)⟩
theorem lw_p46 : lw_okq (⟨"FrameFinder$Frames", "addChain", "(IJ)V"⟩, 12) := ⟨⟨by decide +kernel, by decide +kernel⟩, List.mem_of_getElem? (i := 419) (by decide +kernel), List.mem_of_getElem? (i := 1096) (by decide +kernel), List.mem_of_getElem? (i := 1097) (by decide +kernel)⟩
theorem lw_p47 : lw_okq (⟨"FrameFinder$Frames", "firstPutInto", "(IJ)I"⟩, 12) := ⟨⟨by decide +kernel, by decide +kernel⟩, List.mem_of_getElem? (i := 419) (by decide +kernel), List.mem_of_getElem? (i := 1100) (by decide +kernel), List.mem_of_getElem? (i := 1101) (by decide +kernel)⟩
def lw_privs_3 : List (MethodName × Nat) := [(⟨"FrameFinder$LineReader", "readNames", "(IZ)Z"⟩, 15), (⟨"FrameFinder$LineReader", "readForms", "()Z"⟩, 15), (⟨"FrameFinder$LineReader", "readName", "()I"⟩, 15), (⟨"FrameFinder$LineReader", "readValue", "(I)J"⟩, 15), (⟨"FrameFinder$LineReader", "readProgram", "()Z"⟩, 15), (⟨"FrameFinder$LineReader", "restart", "()V"⟩, 15), (⟨"FrameFinder$LineReader", "special", "(I)V"⟩, 15), (⟨"FrameFinder$LineReader", "addRow", "(Z)V"⟩, 15), (⟨"FrameFinder$LineReader", "extended", "()V"⟩, 15), (⟨"FrameFinder$LineReader", "standard", "(I)V"⟩, 15), (⟨"FrameFinder$LineReader", "passOperands", "(I)V"⟩, 15), (⟨"FrameFinder$Symbols", "readOne", "()Z"⟩, 7), (⟨"java/lang/Throwable", "fillInStackTrace", "(I)Ljava/lang/Throwable;"⟩, 6), (⟨"FrameFinder$Frames", "firstFunction", "(J)I"⟩, 12), (⟨"FrameFinder$Frames", "addChain", "(IJ)V"⟩, 12), (⟨"FrameFinder$Frames", "firstPutInto", "(IJ)I"⟩, 12)]
theorem lw_r3 : ∀ q ∈ lw_privs_3, lw_okq q := List.forall_mem_cons.mpr ⟨lw_p32, List.forall_mem_cons.mpr ⟨lw_p33, List.forall_mem_cons.mpr ⟨lw_p34, List.forall_mem_cons.mpr ⟨lw_p35, List.forall_mem_cons.mpr ⟨lw_p36, List.forall_mem_cons.mpr ⟨lw_p37, List.forall_mem_cons.mpr ⟨lw_p38, List.forall_mem_cons.mpr ⟨lw_p39, List.forall_mem_cons.mpr ⟨lw_p40, List.forall_mem_cons.mpr ⟨lw_p41, List.forall_mem_cons.mpr ⟨lw_p42, List.forall_mem_cons.mpr ⟨lw_p43, List.forall_mem_cons.mpr ⟨lw_p44, List.forall_mem_cons.mpr ⟨lw_p45, List.forall_mem_cons.mpr ⟨lw_p46, List.forall_mem_cons.mpr ⟨lw_p47, fun _ h => absurd h List.not_mem_nil⟩⟩⟩⟩⟩⟩⟩⟩⟩⟩⟩⟩⟩⟩⟩⟩
theorem lw_p48 : lw_okq (⟨"FrameFinder$Frames", "isIn", "(IIJ)Z"⟩, 12) := ⟨⟨by decide +kernel, by decide +kernel⟩, List.mem_of_getElem? (i := 419) (by decide +kernel), List.mem_of_getElem? (i := 1105) (by decide +kernel), List.mem_of_getElem? (i := 1106) (by decide +kernel)⟩
theorem lw_p49 : lw_okq (⟨"FrameFinder$Frames", "addInnermost", "(IJ)V"⟩, 12) := ⟨⟨by decide +kernel, by decide +kernel⟩, List.mem_of_getElem? (i := 419) (by decide +kernel), List.mem_of_getElem? (i := 1111) (by decide +kernel), List.mem_of_getElem? (i := 1112) (by decide +kernel)⟩
theorem lw_p50 : lw_okq (⟨"FrameFinder$Rows", "lastNotAbove", "(IIJ)I"⟩, 9) := ⟨⟨by decide +kernel, by decide +kernel⟩, List.mem_of_getElem? (i := 296) (by decide +kernel), List.mem_of_getElem? (i := 1120) (by decide +kernel), List.mem_of_getElem? (i := 1121) (by decide +kernel)⟩
theorem lw_p51 : lw_okq (⟨"FrameFinder$Frames", "nameOf", "(I)I"⟩, 12) := ⟨⟨by decide +kernel, by decide +kernel⟩, List.mem_of_getElem? (i := 419) (by decide +kernel), List.mem_of_getElem? (i := 1124) (by decide +kernel), List.mem_of_getElem? (i := 1125) (by decide +kernel)⟩
theorem lw_p52 : lw_okq (⟨"FrameFinder$Frames", "add", "(III)V"⟩, 12) := ⟨⟨by decide +kernel, by decide +kernel⟩, List.mem_of_getElem? (i := 419) (by decide +kernel), List.mem_of_getElem? (i := 1130) (by decide +kernel), List.mem_of_getElem? (i := 1131) (by decide +kernel)⟩
theorem lw_p53 : lw_okq (⟨"FrameFinder$Frames", "textEnd", "(I)I"⟩, 12) := ⟨⟨by decide +kernel, by decide +kernel⟩, List.mem_of_getElem? (i := 419) (by decide +kernel), List.mem_of_getElem? (i := 1134) (by decide +kernel), List.mem_of_getElem? (i := 1135) (by decide +kernel)⟩
theorem lw_p54 : lw_okq (⟨"FrameFinder$Frames", "addAround", "(II)V"⟩, 12) := ⟨⟨by decide +kernel, by decide +kernel⟩, List.mem_of_getElem? (i := 419) (by decide +kernel), List.mem_of_getElem? (i := 1142) (by decide +kernel), List.mem_of_getElem? (i := 1143) (by decide +kernel)⟩
theorem lw_p55 : lw_okq (⟨"FrameFinderModel", "forget", "()V"⟩, 60) := ⟨⟨by decide +kernel, by decide +kernel⟩, List.mem_of_getElem? (i := 1151) (by decide +kernel), List.mem_of_getElem? (i := 1362) (by decide +kernel), List.mem_of_getElem? (i := 1363) (by decide +kernel)⟩
theorem lw_p56 : lw_okq (⟨"FrameFinderModel", "readSections", "()Z"⟩, 60) := ⟨⟨by decide +kernel, by decide +kernel⟩, List.mem_of_getElem? (i := 1151) (by decide +kernel), List.mem_of_getElem? (i := 1374) (by decide +kernel), List.mem_of_getElem? (i := 1375) (by decide +kernel)⟩
theorem lw_p57 : lw_okq (⟨"FrameFinderModel", "isHead", "()Z"⟩, 60) := ⟨⟨by decide +kernel, by decide +kernel⟩, List.mem_of_getElem? (i := 1151) (by decide +kernel), List.mem_of_getElem? (i := 1378) (by decide +kernel), List.mem_of_getElem? (i := 1379) (by decide +kernel)⟩
theorem lw_p58 : lw_okq (⟨"FrameFinderModel", "peek", "(II)J"⟩, 60) := ⟨⟨by decide +kernel, by decide +kernel⟩, List.mem_of_getElem? (i := 1151) (by decide +kernel), List.mem_of_getElem? (i := 1382) (by decide +kernel), List.mem_of_getElem? (i := 1383) (by decide +kernel)⟩
theorem lw_p59 : lw_okq (⟨"FrameFinderModel", "lies", "(I)Z"⟩, 60) := ⟨⟨by decide +kernel, by decide +kernel⟩, List.mem_of_getElem? (i := 1151) (by decide +kernel), List.mem_of_getElem? (i := 1392) (by decide +kernel), List.mem_of_getElem? (i := 1393) (by decide +kernel)⟩
theorem lw_p60 : lw_okq (⟨"FrameFinderModel", "names", "(III)Z"⟩, 60) := ⟨⟨by decide +kernel, by decide +kernel⟩, List.mem_of_getElem? (i := 1151) (by decide +kernel), List.mem_of_getElem? (i := 1397) (by decide +kernel), List.mem_of_getElem? (i := 1398) (by decide +kernel)⟩
theorem lw_p61 : lw_okq (⟨"FrameFinderModel", "textEnd", "(II)I"⟩, 60) := ⟨⟨by decide +kernel, by decide +kernel⟩, List.mem_of_getElem? (i := 1151) (by decide +kernel), List.mem_of_getElem? (i := 1401) (by decide +kernel), List.mem_of_getElem? (i := 1402) (by decide +kernel)⟩
theorem lw_p62 : lw_okq (⟨"FrameFinderModel", "isName", "(III)Z"⟩, 60) := ⟨⟨by decide +kernel, by decide +kernel⟩, List.mem_of_getElem? (i := 1151) (by decide +kernel), List.mem_of_getElem? (i := 1405) (by decide +kernel), List.mem_of_getElem? (i := 1406) (by decide +kernel)⟩
theorem lw_p63 : lw_okq (⟨"FrameFinderModel", "readUnits", "()Z"⟩, 60) := ⟨⟨by decide +kernel, by decide +kernel⟩, List.mem_of_getElem? (i := 1151) (by decide +kernel), List.mem_of_getElem? (i := 1410) (by decide +kernel), List.mem_of_getElem? (i := 1411) (by decide +kernel)⟩
def lw_privs_4 : List (MethodName × Nat) := [(⟨"FrameFinder$Frames", "isIn", "(IIJ)Z"⟩, 12), (⟨"FrameFinder$Frames", "addInnermost", "(IJ)V"⟩, 12), (⟨"FrameFinder$Rows", "lastNotAbove", "(IIJ)I"⟩, 9), (⟨"FrameFinder$Frames", "nameOf", "(I)I"⟩, 12), (⟨"FrameFinder$Frames", "add", "(III)V"⟩, 12), (⟨"FrameFinder$Frames", "textEnd", "(I)I"⟩, 12), (⟨"FrameFinder$Frames", "addAround", "(II)V"⟩, 12), (⟨"FrameFinderModel", "forget", "()V"⟩, 60), (⟨"FrameFinderModel", "readSections", "()Z"⟩, 60), (⟨"FrameFinderModel", "isHead", "()Z"⟩, 60), (⟨"FrameFinderModel", "peek", "(II)J"⟩, 60), (⟨"FrameFinderModel", "lies", "(I)Z"⟩, 60), (⟨"FrameFinderModel", "names", "(III)Z"⟩, 60), (⟨"FrameFinderModel", "textEnd", "(II)I"⟩, 60), (⟨"FrameFinderModel", "isName", "(III)Z"⟩, 60), (⟨"FrameFinderModel", "readUnits", "()Z"⟩, 60)]
theorem lw_r4 : ∀ q ∈ lw_privs_4, lw_okq q := List.forall_mem_cons.mpr ⟨lw_p48, List.forall_mem_cons.mpr ⟨lw_p49, List.forall_mem_cons.mpr ⟨lw_p50, List.forall_mem_cons.mpr ⟨lw_p51, List.forall_mem_cons.mpr ⟨lw_p52, List.forall_mem_cons.mpr ⟨lw_p53, List.forall_mem_cons.mpr ⟨lw_p54, List.forall_mem_cons.mpr ⟨lw_p55, List.forall_mem_cons.mpr ⟨lw_p56, List.forall_mem_cons.mpr ⟨lw_p57, List.forall_mem_cons.mpr ⟨lw_p58, List.forall_mem_cons.mpr ⟨lw_p59, List.forall_mem_cons.mpr ⟨lw_p60, List.forall_mem_cons.mpr ⟨lw_p61, List.forall_mem_cons.mpr ⟨lw_p62, List.forall_mem_cons.mpr ⟨lw_p63, fun _ h => absurd h List.not_mem_nil⟩⟩⟩⟩⟩⟩⟩⟩⟩⟩⟩⟩⟩⟩⟩⟩
theorem lw_p64 : lw_okq (⟨"FrameFinderModel", "u", "(I)J"⟩, 60) := ⟨⟨by decide +kernel, by decide +kernel⟩, List.mem_of_getElem? (i := 1151) (by decide +kernel), List.mem_of_getElem? (i := 1414) (by decide +kernel), List.mem_of_getElem? (i := 1415) (by decide +kernel)⟩
theorem lw_p65 : lw_okq (⟨"FrameFinderModel", "readUnit", "(I)Z"⟩, 60) := ⟨⟨by decide +kernel, by decide +kernel⟩, List.mem_of_getElem? (i := 1151) (by decide +kernel), List.mem_of_getElem? (i := 1418) (by decide +kernel), List.mem_of_getElem? (i := 1419) (by decide +kernel)⟩
theorem lw_p66 : lw_okq (⟨"FrameFinderModel", "readAbbreviations", "(J)Z"⟩, 60) := ⟨⟨by decide +kernel, by decide +kernel⟩, List.mem_of_getElem? (i := 1151) (by decide +kernel), List.mem_of_getElem? (i := 1423) (by decide +kernel), List.mem_of_getElem? (i := 1424) (by decide +kernel)⟩
theorem lw_p67 : lw_okq (⟨"FrameFinderModel", "enter", "(IJ)V"⟩, 60) := ⟨⟨by decide +kernel, by decide +kernel⟩, List.mem_of_getElem? (i := 1151) (by decide +kernel), List.mem_of_getElem? (i := 1427) (by decide +kernel), List.mem_of_getElem? (i := 1428) (by decide +kernel)⟩
theorem lw_p68 : lw_okq (⟨"FrameFinderModel", "pass", "(J)V"⟩, 60) := ⟨⟨by decide +kernel, by decide +kernel⟩, List.mem_of_getElem? (i := 1151) (by decide +kernel), List.mem_of_getElem? (i := 1431) (by decide +kernel), List.mem_of_getElem? (i := 1432) (by decide +kernel)⟩
theorem lw_p69 : lw_okq (⟨"FrameFinderModel", "leb", "(Z)J"⟩, 60) := ⟨⟨by decide +kernel, by decide +kernel⟩, List.mem_of_getElem? (i := 1151) (by decide +kernel), List.mem_of_getElem? (i := 1435) (by decide +kernel), List.mem_of_getElem? (i := 1436) (by decide +kernel)⟩
theorem lw_p70 : lw_okq (⟨"FrameFinderModel", "abbreviation", "(J)I"⟩, 60) := ⟨⟨by decide +kernel, by decide +kernel⟩, List.mem_of_getElem? (i := 1151) (by decide +kernel), List.mem_of_getElem? (i := 1440) (by decide +kernel), List.mem_of_getElem? (i := 1441) (by decide +kernel)⟩
theorem lw_p71 : lw_okq (⟨"FrameFinderModel", "readAttributes", "(I)Z"⟩, 60) := ⟨⟨by decide +kernel, by decide +kernel⟩, List.mem_of_getElem? (i := 1151) (by decide +kernel), List.mem_of_getElem? (i := 1445) (by decide +kernel), List.mem_of_getElem? (i := 1446) (by decide +kernel)⟩
theorem lw_p72 : lw_okq (⟨"FrameFinderModel", "readEntries", "()Z"⟩, 60) := ⟨⟨by decide +kernel, by decide +kernel⟩, List.mem_of_getElem? (i := 1151) (by decide +kernel), List.mem_of_getElem? (i := 1453) (by decide +kernel), List.mem_of_getElem? (i := 1454) (by decide +kernel)⟩
theorem lw_p73 : lw_okq (⟨"FrameFinderModel", "readEntry", "(II)V"⟩, 60) := ⟨⟨by decide +kernel, by decide +kernel⟩, List.mem_of_getElem? (i := 1151) (by decide +kernel), List.mem_of_getElem? (i := 1458) (by decide +kernel), List.mem_of_getElem? (i := 1459) (by decide +kernel)⟩
theorem lw_p74 : lw_okq (⟨"FrameFinderModel", "readValue", "(IJ)J"⟩, 60) := ⟨⟨by decide +kernel, by decide +kernel⟩, List.mem_of_getElem? (i := 1151) (by decide +kernel), List.mem_of_getElem? (i := 1462) (by decide +kernel), List.mem_of_getElem? (i := 1463) (by decide +kernel)⟩
theorem lw_p75 : lw_okq (⟨"FrameFinderModel", "text", "()I"⟩, 60) := ⟨⟨by decide +kernel, by decide +kernel⟩, List.mem_of_getElem? (i := 1151) (by decide +kernel), List.mem_of_getElem? (i := 1466) (by decide +kernel), List.mem_of_getElem? (i := 1467) (by decide +kernel)⟩
theorem lw_p76 : lw_okq (⟨"FrameFinderModel", "readValues", "()Z"⟩, 60) := ⟨⟨by decide +kernel, by decide +kernel⟩, List.mem_of_getElem? (i := 1151) (by decide +kernel), List.mem_of_getElem? (i := 1473) (by decide +kernel), List.mem_of_getElem? (i := 1474) (by decide +kernel)⟩
theorem lw_p77 : lw_okq (⟨"FrameFinderModel", "isRight", "(I)Z"⟩, 60) := ⟨⟨by decide +kernel, by decide +kernel⟩, List.mem_of_getElem? (i := 1151) (by decide +kernel), List.mem_of_getElem? (i := 1477) (by decide +kernel), List.mem_of_getElem? (i := 1478) (by decide +kernel)⟩
theorem lw_p78 : lw_okq (⟨"FrameFinderModel", "has", "(II)Z"⟩, 60) := ⟨⟨by decide +kernel, by decide +kernel⟩, List.mem_of_getElem? (i := 1151) (by decide +kernel), List.mem_of_getElem? (i := 1481) (by decide +kernel), List.mem_of_getElem? (i := 1482) (by decide +kernel)⟩
theorem lw_p79 : lw_okq (⟨"FrameFinderModel", "nameAt", "(I)I"⟩, 60) := ⟨⟨by decide +kernel, by decide +kernel⟩, List.mem_of_getElem? (i := 1151) (by decide +kernel), List.mem_of_getElem? (i := 1485) (by decide +kernel), List.mem_of_getElem? (i := 1486) (by decide +kernel)⟩
def lw_privs_5 : List (MethodName × Nat) := [(⟨"FrameFinderModel", "u", "(I)J"⟩, 60), (⟨"FrameFinderModel", "readUnit", "(I)Z"⟩, 60), (⟨"FrameFinderModel", "readAbbreviations", "(J)Z"⟩, 60), (⟨"FrameFinderModel", "enter", "(IJ)V"⟩, 60), (⟨"FrameFinderModel", "pass", "(J)V"⟩, 60), (⟨"FrameFinderModel", "leb", "(Z)J"⟩, 60), (⟨"FrameFinderModel", "abbreviation", "(J)I"⟩, 60), (⟨"FrameFinderModel", "readAttributes", "(I)Z"⟩, 60), (⟨"FrameFinderModel", "readEntries", "()Z"⟩, 60), (⟨"FrameFinderModel", "readEntry", "(II)V"⟩, 60), (⟨"FrameFinderModel", "readValue", "(IJ)J"⟩, 60), (⟨"FrameFinderModel", "text", "()I"⟩, 60), (⟨"FrameFinderModel", "readValues", "()Z"⟩, 60), (⟨"FrameFinderModel", "isRight", "(I)Z"⟩, 60), (⟨"FrameFinderModel", "has", "(II)Z"⟩, 60), (⟨"FrameFinderModel", "nameAt", "(I)I"⟩, 60)]
theorem lw_r5 : ∀ q ∈ lw_privs_5, lw_okq q := List.forall_mem_cons.mpr ⟨lw_p64, List.forall_mem_cons.mpr ⟨lw_p65, List.forall_mem_cons.mpr ⟨lw_p66, List.forall_mem_cons.mpr ⟨lw_p67, List.forall_mem_cons.mpr ⟨lw_p68, List.forall_mem_cons.mpr ⟨lw_p69, List.forall_mem_cons.mpr ⟨lw_p70, List.forall_mem_cons.mpr ⟨lw_p71, List.forall_mem_cons.mpr ⟨lw_p72, List.forall_mem_cons.mpr ⟨lw_p73, List.forall_mem_cons.mpr ⟨lw_p74, List.forall_mem_cons.mpr ⟨lw_p75, List.forall_mem_cons.mpr ⟨lw_p76, List.forall_mem_cons.mpr ⟨lw_p77, List.forall_mem_cons.mpr ⟨lw_p78, List.forall_mem_cons.mpr ⟨lw_p79, fun _ h => absurd h List.not_mem_nil⟩⟩⟩⟩⟩⟩⟩⟩⟩⟩⟩⟩⟩⟩⟩⟩
theorem lw_p80 : lw_okq (⟨"FrameFinderModel", "valueAt", "(II)J"⟩, 60) := ⟨⟨by decide +kernel, by decide +kernel⟩, List.mem_of_getElem? (i := 1151) (by decide +kernel), List.mem_of_getElem? (i := 1489) (by decide +kernel), List.mem_of_getElem? (i := 1490) (by decide +kernel)⟩
theorem lw_p81 : lw_okq (⟨"FrameFinderModel", "formAt", "(II)I"⟩, 60) := ⟨⟨by decide +kernel, by decide +kernel⟩, List.mem_of_getElem? (i := 1151) (by decide +kernel), List.mem_of_getElem? (i := 1493) (by decide +kernel), List.mem_of_getElem? (i := 1494) (by decide +kernel)⟩
theorem lw_p82 : lw_okq (⟨"FrameFinderModel", "textIn", "(IJ)I"⟩, 60) := ⟨⟨by decide +kernel, by decide +kernel⟩, List.mem_of_getElem? (i := 1151) (by decide +kernel), List.mem_of_getElem? (i := 1497) (by decide +kernel), List.mem_of_getElem? (i := 1498) (by decide +kernel)⟩
theorem lw_p83 : lw_okq (⟨"FrameFinderModel", "placeIn", "(IJI)I"⟩, 60) := ⟨⟨by decide +kernel, by decide +kernel⟩, List.mem_of_getElem? (i := 1151) (by decide +kernel), List.mem_of_getElem? (i := 1501) (by decide +kernel), List.mem_of_getElem? (i := 1502) (by decide +kernel)⟩
theorem lw_p84 : lw_okq (⟨"FrameFinderModel", "baseOf", "(II)J"⟩, 60) := ⟨⟨by decide +kernel, by decide +kernel⟩, List.mem_of_getElem? (i := 1151) (by decide +kernel), List.mem_of_getElem? (i := 1505) (by decide +kernel), List.mem_of_getElem? (i := 1506) (by decide +kernel)⟩
theorem lw_p85 : lw_okq (⟨"FrameFinderModel", "indexed", "(IJJI)I"⟩, 60) := ⟨⟨by decide +kernel, by decide +kernel⟩, List.mem_of_getElem? (i := 1151) (by decide +kernel), List.mem_of_getElem? (i := 1509) (by decide +kernel), List.mem_of_getElem? (i := 1510) (by decide +kernel)⟩
theorem lw_p86 : lw_okq (⟨"FrameFinderModel", "address", "(II)Z"⟩, 60) := ⟨⟨by decide +kernel, by decide +kernel⟩, List.mem_of_getElem? (i := 1151) (by decide +kernel), List.mem_of_getElem? (i := 1517) (by decide +kernel), List.mem_of_getElem? (i := 1518) (by decide +kernel)⟩
theorem lw_p87 : lw_okq (⟨"FrameFinderModel", "addressAt", "(IJ)Z"⟩, 60) := ⟨⟨by decide +kernel, by decide +kernel⟩, List.mem_of_getElem? (i := 1151) (by decide +kernel), List.mem_of_getElem? (i := 1521) (by decide +kernel), List.mem_of_getElem? (i := 1522) (by decide +kernel)⟩
theorem lw_p88 : lw_okq (⟨"FrameFinderModel", "isOrigin", "(I)Z"⟩, 60) := ⟨⟨by decide +kernel, by decide +kernel⟩, List.mem_of_getElem? (i := 1151) (by decide +kernel), List.mem_of_getElem? (i := 1528) (by decide +kernel), List.mem_of_getElem? (i := 1529) (by decide +kernel)⟩
theorem lw_p89 : lw_okq (⟨"FrameFinderModel", "origin", "(I)I"⟩, 60) := ⟨⟨by decide +kernel, by decide +kernel⟩, List.mem_of_getElem? (i := 1151) (by decide +kernel), List.mem_of_getElem? (i := 1532) (by decide +kernel), List.mem_of_getElem? (i := 1533) (by decide +kernel)⟩
theorem lw_p90 : lw_okq (⟨"FrameFinderModel", "readRanges", "(I)Z"⟩, 60) := ⟨⟨by decide +kernel, by decide +kernel⟩, List.mem_of_getElem? (i := 1151) (by decide +kernel), List.mem_of_getElem? (i := 1536) (by decide +kernel), List.mem_of_getElem? (i := 1537) (by decide +kernel)⟩
theorem lw_p91 : lw_okq (⟨"FrameFinderModel", "range", "(JJ)Z"⟩, 60) := ⟨⟨by decide +kernel, by decide +kernel⟩, List.mem_of_getElem? (i := 1151) (by decide +kernel), List.mem_of_getElem? (i := 1540) (by decide +kernel), List.mem_of_getElem? (i := 1541) (by decide +kernel)⟩
theorem lw_p92 : lw_okq (⟨"FrameFinderModel", "readList", "(I)Z"⟩, 60) := ⟨⟨by decide +kernel, by decide +kernel⟩, List.mem_of_getElem? (i := 1151) (by decide +kernel), List.mem_of_getElem? (i := 1544) (by decide +kernel), List.mem_of_getElem? (i := 1545) (by decide +kernel)⟩
theorem lw_p93 : lw_okq (⟨"FrameFinderModel", "rangeByIndex", "(II)Z"⟩, 60) := ⟨⟨by decide +kernel, by decide +kernel⟩, List.mem_of_getElem? (i := 1151) (by decide +kernel), List.mem_of_getElem? (i := 1548) (by decide +kernel), List.mem_of_getElem? (i := 1549) (by decide +kernel)⟩
theorem lw_p94 : lw_okq (⟨"FrameFinderModel", "readAllLines", "()Z"⟩, 60) := ⟨⟨by decide +kernel, by decide +kernel⟩, List.mem_of_getElem? (i := 1151) (by decide +kernel), List.mem_of_getElem? (i := 1552) (by decide +kernel), List.mem_of_getElem? (i := 1553) (by decide +kernel)⟩
theorem lw_p95 : lw_okq (⟨"FrameFinderModel", "readLines", "(I)Z"⟩, 60) := ⟨⟨by decide +kernel, by decide +kernel⟩, List.mem_of_getElem? (i := 1151) (by decide +kernel), List.mem_of_getElem? (i := 1556) (by decide +kernel), List.mem_of_getElem? (i := 1557) (by decide +kernel)⟩
def lw_privs_6 : List (MethodName × Nat) := [(⟨"FrameFinderModel", "valueAt", "(II)J"⟩, 60), (⟨"FrameFinderModel", "formAt", "(II)I"⟩, 60), (⟨"FrameFinderModel", "textIn", "(IJ)I"⟩, 60), (⟨"FrameFinderModel", "placeIn", "(IJI)I"⟩, 60), (⟨"FrameFinderModel", "baseOf", "(II)J"⟩, 60), (⟨"FrameFinderModel", "indexed", "(IJJI)I"⟩, 60), (⟨"FrameFinderModel", "address", "(II)Z"⟩, 60), (⟨"FrameFinderModel", "addressAt", "(IJ)Z"⟩, 60), (⟨"FrameFinderModel", "isOrigin", "(I)Z"⟩, 60), (⟨"FrameFinderModel", "origin", "(I)I"⟩, 60), (⟨"FrameFinderModel", "readRanges", "(I)Z"⟩, 60), (⟨"FrameFinderModel", "range", "(JJ)Z"⟩, 60), (⟨"FrameFinderModel", "readList", "(I)Z"⟩, 60), (⟨"FrameFinderModel", "rangeByIndex", "(II)Z"⟩, 60), (⟨"FrameFinderModel", "readAllLines", "()Z"⟩, 60), (⟨"FrameFinderModel", "readLines", "(I)Z"⟩, 60)]
theorem lw_r6 : ∀ q ∈ lw_privs_6, lw_okq q := List.forall_mem_cons.mpr ⟨lw_p80, List.forall_mem_cons.mpr ⟨lw_p81, List.forall_mem_cons.mpr ⟨lw_p82, List.forall_mem_cons.mpr ⟨lw_p83, List.forall_mem_cons.mpr ⟨lw_p84, List.forall_mem_cons.mpr ⟨lw_p85, List.forall_mem_cons.mpr ⟨lw_p86, List.forall_mem_cons.mpr ⟨lw_p87, List.forall_mem_cons.mpr ⟨lw_p88, List.forall_mem_cons.mpr ⟨lw_p89, List.forall_mem_cons.mpr ⟨lw_p90, List.forall_mem_cons.mpr ⟨lw_p91, List.forall_mem_cons.mpr ⟨lw_p92, List.forall_mem_cons.mpr ⟨lw_p93, List.forall_mem_cons.mpr ⟨lw_p94, List.forall_mem_cons.mpr ⟨lw_p95, fun _ h => absurd h List.not_mem_nil⟩⟩⟩⟩⟩⟩⟩⟩⟩⟩⟩⟩⟩⟩⟩⟩
theorem lw_p96 : lw_okq (⟨"FrameFinderModel", "readTable", "(IZ)Z"⟩, 60) := ⟨⟨by decide +kernel, by decide +kernel⟩, List.mem_of_getElem? (i := 1151) (by decide +kernel), List.mem_of_getElem? (i := 1562) (by decide +kernel), List.mem_of_getElem? (i := 1563) (by decide +kernel)⟩
theorem lw_p97 : lw_okq (⟨"FrameFinderModel", "readWhats", "(I)I"⟩, 60) := ⟨⟨by decide +kernel, by decide +kernel⟩, List.mem_of_getElem? (i := 1151) (by decide +kernel), List.mem_of_getElem? (i := 1566) (by decide +kernel), List.mem_of_getElem? (i := 1567) (by decide +kernel)⟩
theorem lw_p98 : lw_okq (⟨"FrameFinderModel", "readOne", "(II)I"⟩, 60) := ⟨⟨by decide +kernel, by decide +kernel⟩, List.mem_of_getElem? (i := 1151) (by decide +kernel), List.mem_of_getElem? (i := 1574) (by decide +kernel), List.mem_of_getElem? (i := 1575) (by decide +kernel)⟩
theorem lw_p99 : lw_okq (⟨"FrameFinderModel", "begin", "()V"⟩, 60) := ⟨⟨by decide +kernel, by decide +kernel⟩, List.mem_of_getElem? (i := 1151) (by decide +kernel), List.mem_of_getElem? (i := 1578) (by decide +kernel), List.mem_of_getElem? (i := 1579) (by decide +kernel)⟩
theorem lw_p100 : lw_okq (⟨"FrameFinderModel", "code", "(I)Z"⟩, 60) := ⟨⟨by decide +kernel, by decide +kernel⟩, List.mem_of_getElem? (i := 1151) (by decide +kernel), List.mem_of_getElem? (i := 1582) (by decide +kernel), List.mem_of_getElem? (i := 1583) (by decide +kernel)⟩
theorem lw_p101 : lw_okq (⟨"FrameFinderModel", "row", "(Z)Z"⟩, 60) := ⟨⟨by decide +kernel, by decide +kernel⟩, List.mem_of_getElem? (i := 1151) (by decide +kernel), List.mem_of_getElem? (i := 1586) (by decide +kernel), List.mem_of_getElem? (i := 1587) (by decide +kernel)⟩
theorem lw_p102 : lw_okq (⟨"FrameFinderModel", "longCode", "()Z"⟩, 60) := ⟨⟨by decide +kernel, by decide +kernel⟩, List.mem_of_getElem? (i := 1151) (by decide +kernel), List.mem_of_getElem? (i := 1590) (by decide +kernel), List.mem_of_getElem? (i := 1591) (by decide +kernel)⟩
theorem lw_p103 : lw_okq (⟨"FrameFinderModel", "readSymbols", "()Z"⟩, 60) := ⟨⟨by decide +kernel, by decide +kernel⟩, List.mem_of_getElem? (i := 1151) (by decide +kernel), List.mem_of_getElem? (i := 1595) (by decide +kernel), List.mem_of_getElem? (i := 1596) (by decide +kernel)⟩
theorem lw_p104 : lw_okq (⟨"FrameFinderModel", "first", "(II)I"⟩, 60) := ⟨⟨by decide +kernel, by decide +kernel⟩, List.mem_of_getElem? (i := 1151) (by decide +kernel), List.mem_of_getElem? (i := 1611) (by decide +kernel), List.mem_of_getElem? (i := 1612) (by decide +kernel)⟩
theorem lw_p105 : lw_okq (⟨"FrameFinderModel", "holds", "(I)Z"⟩, 60) := ⟨⟨by decide +kernel, by decide +kernel⟩, List.mem_of_getElem? (i := 1151) (by decide +kernel), List.mem_of_getElem? (i := 1615) (by decide +kernel), List.mem_of_getElem? (i := 1616) (by decide +kernel)⟩
theorem lw_p106 : lw_okq (⟨"FrameFinderModel", "isUnder", "(II)Z"⟩, 60) := ⟨⟨by decide +kernel, by decide +kernel⟩, List.mem_of_getElem? (i := 1151) (by decide +kernel), List.mem_of_getElem? (i := 1626) (by decide +kernel), List.mem_of_getElem? (i := 1627) (by decide +kernel)⟩
theorem lw_p107 : lw_okq (⟨"FrameFinderModel", "letsPass", "(I)Z"⟩, 60) := ⟨⟨by decide +kernel, by decide +kernel⟩, List.mem_of_getElem? (i := 1151) (by decide +kernel), List.mem_of_getElem? (i := 1630) (by decide +kernel), List.mem_of_getElem? (i := 1631) (by decide +kernel)⟩
theorem lw_p108 : lw_okq (⟨"FrameFinderModel", "symbol", "()I"⟩, 60) := ⟨⟨by decide +kernel, by decide +kernel⟩, List.mem_of_getElem? (i := 1151) (by decide +kernel), List.mem_of_getElem? (i := 1634) (by decide +kernel), List.mem_of_getElem? (i := 1635) (by decide +kernel)⟩
theorem lw_p109 : lw_okq (⟨"FrameFinderModel", "isFrame", "(I)Z"⟩, 60) := ⟨⟨by decide +kernel, by decide +kernel⟩, List.mem_of_getElem? (i := 1151) (by decide +kernel), List.mem_of_getElem? (i := 1642) (by decide +kernel), List.mem_of_getElem? (i := 1643) (by decide +kernel)⟩
theorem lw_p110 : lw_okq (⟨"FrameFinderModel", "nameOf", "(I)I"⟩, 60) := ⟨⟨by decide +kernel, by decide +kernel⟩, List.mem_of_getElem? (i := 1151) (by decide +kernel), List.mem_of_getElem? (i := 1646) (by decide +kernel), List.mem_of_getElem? (i := 1647) (by decide +kernel)⟩
theorem lw_p111 : lw_okq (⟨"FrameFinderModel", "character", "(II)I"⟩, 60) := ⟨⟨by decide +kernel, by decide +kernel⟩, List.mem_of_getElem? (i := 1151) (by decide +kernel), List.mem_of_getElem? (i := 1650) (by decide +kernel), List.mem_of_getElem? (i := 1651) (by decide +kernel)⟩
def lw_privs_7 : List (MethodName × Nat) := [(⟨"FrameFinderModel", "readTable", "(IZ)Z"⟩, 60), (⟨"FrameFinderModel", "readWhats", "(I)I"⟩, 60), (⟨"FrameFinderModel", "readOne", "(II)I"⟩, 60), (⟨"FrameFinderModel", "begin", "()V"⟩, 60), (⟨"FrameFinderModel", "code", "(I)Z"⟩, 60), (⟨"FrameFinderModel", "row", "(Z)Z"⟩, 60), (⟨"FrameFinderModel", "longCode", "()Z"⟩, 60), (⟨"FrameFinderModel", "readSymbols", "()Z"⟩, 60), (⟨"FrameFinderModel", "first", "(II)I"⟩, 60), (⟨"FrameFinderModel", "holds", "(I)Z"⟩, 60), (⟨"FrameFinderModel", "isUnder", "(II)Z"⟩, 60), (⟨"FrameFinderModel", "letsPass", "(I)Z"⟩, 60), (⟨"FrameFinderModel", "symbol", "()I"⟩, 60), (⟨"FrameFinderModel", "isFrame", "(I)Z"⟩, 60), (⟨"FrameFinderModel", "nameOf", "(I)I"⟩, 60), (⟨"FrameFinderModel", "character", "(II)I"⟩, 60)]
theorem lw_r7 : ∀ q ∈ lw_privs_7, lw_okq q := List.forall_mem_cons.mpr ⟨lw_p96, List.forall_mem_cons.mpr ⟨lw_p97, List.forall_mem_cons.mpr ⟨lw_p98, List.forall_mem_cons.mpr ⟨lw_p99, List.forall_mem_cons.mpr ⟨lw_p100, List.forall_mem_cons.mpr ⟨lw_p101, List.forall_mem_cons.mpr ⟨lw_p102, List.forall_mem_cons.mpr ⟨lw_p103, List.forall_mem_cons.mpr ⟨lw_p104, List.forall_mem_cons.mpr ⟨lw_p105, List.forall_mem_cons.mpr ⟨lw_p106, List.forall_mem_cons.mpr ⟨lw_p107, List.forall_mem_cons.mpr ⟨lw_p108, List.forall_mem_cons.mpr ⟨lw_p109, List.forall_mem_cons.mpr ⟨lw_p110, List.forall_mem_cons.mpr ⟨lw_p111, fun _ h => absurd h List.not_mem_nil⟩⟩⟩⟩⟩⟩⟩⟩⟩⟩⟩⟩⟩⟩⟩⟩
theorem lw_p112 : lw_okq (⟨"FrameFinderModel", "rowOf", "(I)I"⟩, 60) := ⟨⟨by decide +kernel, by decide +kernel⟩, List.mem_of_getElem? (i := 1151) (by decide +kernel), List.mem_of_getElem? (i := 1658) (by decide +kernel), List.mem_of_getElem? (i := 1659) (by decide +kernel)⟩
def lw_privs_8 : List (MethodName × Nat) := [(⟨"FrameFinderModel", "rowOf", "(I)I"⟩, 60)]
theorem lw_r8 : ∀ q ∈ lw_privs_8, lw_okq q := List.forall_mem_cons.mpr ⟨lw_p112, fun _ h => absurd h List.not_mem_nil⟩
def lw_privs : List (MethodName × Nat) := lw_privs_1 ++ (lw_privs_2 ++ (lw_privs_3 ++ (lw_privs_4 ++ (lw_privs_5 ++ (lw_privs_6 ++ (lw_privs_7 ++ (lw_privs_8)))))))
def lw_tbl : List Cond := k2_sels lw_privs ++ tables_1
theorem lw_privs_ok : ∀ q ∈ lw_privs, lw_okq q := by
  show ∀ q ∈ lw_privs_1 ++ (lw_privs_2 ++ (lw_privs_3 ++ (lw_privs_4 ++ (lw_privs_5 ++ (lw_privs_6 ++ (lw_privs_7 ++ (lw_privs_8))))))), lw_okq q
  exact List.forall_mem_append.mpr ⟨lw_r1, List.forall_mem_append.mpr ⟨lw_r2, List.forall_mem_append.mpr ⟨lw_r3, List.forall_mem_append.mpr ⟨lw_r4, List.forall_mem_append.mpr ⟨lw_r5, List.forall_mem_append.mpr ⟨lw_r6, List.forall_mem_append.mpr ⟨lw_r7, lw_r8⟩⟩⟩⟩⟩⟩⟩
-- ===== end of PART A; then your names; then what follows =====
end
section
/-! names, tables and code, written by wip/whole/gen.py -/
abbrev tw_ : List Cond := lw_tbl.filter goodWord
abbrev nw_ : List Cond := lw_tbl.filter am_nest
def R_F : String := "FrameFinder"
def F_F : u_T := fun k => match k with
  | 0 => ("FrameFinder", "image", "[B", true)
  | 1 => ("FrameFinder", "sections", "LFrameFinder$Sections;", true)
  | 2 => ("FrameFinder", "entries", "LFrameFinder$Entries;", true)
  | 3 => ("FrameFinder", "unitReader", "LFrameFinder$UnitReader;", true)
  | 4 => ("FrameFinder", "ranges", "LFrameFinder$Ranges;", true)
  | 5 => ("FrameFinder", "valueReader", "LFrameFinder$ValueReader;", true)
  | 6 => ("FrameFinder", "rows", "LFrameFinder$Rows;", true)
  | 7 => ("FrameFinder", "lineReader", "LFrameFinder$LineReader;", true)
  | 8 => ("FrameFinder", "symbols", "LFrameFinder$Symbols;", true)
  | 9 => ("FrameFinder", "frames", "LFrameFinder$Frames;", true)
  | 10 => ("FrameFinder", "length", "I", false)
  | 11 => ("FrameFinder", "isRead", "Z", false)
  | _ => ("FrameFinder", "latestFault", "I", false)
def t_F : Nat → FieldType := fun k => match k with
  | 0 => .array .byte
  | 1 => .object "FrameFinder$Sections"
  | 2 => .object "FrameFinder$Entries"
  | 3 => .object "FrameFinder$UnitReader"
  | 4 => .object "FrameFinder$Ranges"
  | 5 => .object "FrameFinder$ValueReader"
  | 6 => .object "FrameFinder$Rows"
  | 7 => .object "FrameFinder$LineReader"
  | 8 => .object "FrameFinder$Symbols"
  | 9 => .object "FrameFinder$Frames"
  | 10 => .int
  | 11 => .boolean
  | _ => .int
def R_Se : String := "FrameFinder$Sections"
def F_Se : u_T := fun k => match k with
  | 0 => ("FrameFinder$Sections", "image", "[B", true)
  | 1 => ("FrameFinder$Sections", "cursor", "LFrameFinder$Cursor;", true)
  | 2 => ("FrameFinder$Sections", "from", "[I", true)
  | 3 => ("FrameFinder$Sections", "to", "[I", true)
  | 4 => ("FrameFinder$Sections", "namePlace", "[J", true)
  | 5 => ("FrameFinder$Sections", "chosenFrom", "[I", true)
  | 6 => ("FrameFinder$Sections", "chosenTo", "[I", true)
  | 7 => ("FrameFinder$Sections", "isChosen", "[Z", true)
  | 8 => ("FrameFinder$Sections", "total", "I", false)
  | 9 => ("FrameFinder$Sections", "headersAt", "I", false)
  | _ => ("FrameFinder$Sections", "namesIndex", "I", false)
def t_Se : Nat → FieldType := fun k => match k with
  | 0 => .array .byte
  | 1 => .object "FrameFinder$Cursor"
  | 2 => .array .int
  | 3 => .array .int
  | 4 => .array .long
  | 5 => .array .int
  | 6 => .array .int
  | 7 => .array .boolean
  | 8 => .int
  | 9 => .int
  | _ => .int
def R_Cu : String := "FrameFinder$Cursor"
def F_Cu : u_T := fun k => match k with
  | 0 => ("FrameFinder$Cursor", "image", "[B", true)
  | 1 => ("FrameFinder$Cursor", "at", "I", false)
  | 2 => ("FrameFinder$Cursor", "end", "I", false)
  | _ => ("FrameFinder$Cursor", "bad", "Z", false)
def t_Cu : Nat → FieldType := fun k => match k with
  | 0 => .array .byte
  | 1 => .int
  | 2 => .int
  | _ => .boolean
def R_En : String := "FrameFinder$Entries"
def F_En : u_T := fun k => match k with
  | 0 => ("FrameFinder$Entries", "tag", "[J", true)
  | 1 => ("FrameFinder$Entries", "parent", "[I", true)
  | 2 => ("FrameFinder$Entries", "unit", "[I", true)
  | 3 => ("FrameFinder$Entries", "place", "[I", true)
  | 4 => ("FrameFinder$Entries", "form", "[I", true)
  | 5 => ("FrameFinder$Entries", "value", "[J", true)
  | 6 => ("FrameFinder$Entries", "unitPlace", "[I", true)
  | 7 => ("FrameFinder$Entries", "unitEntry", "[I", true)
  | 8 => ("FrameFinder$Entries", "unitForm", "[I", true)
  | 9 => ("FrameFinder$Entries", "unitValue", "[J", true)
  | 10 => ("FrameFinder$Entries", "total", "I", false)
  | _ => ("FrameFinder$Entries", "units", "I", false)
def t_En : Nat → FieldType := fun k => match k with
  | 0 => .array .long
  | 1 => .array .int
  | 2 => .array .int
  | 3 => .array .int
  | 4 => .array .int
  | 5 => .array .long
  | 6 => .array .int
  | 7 => .array .int
  | 8 => .array .int
  | 9 => .array .long
  | 10 => .int
  | _ => .int
def R_Ur : String := "FrameFinder$UnitReader"
def F_Ur : u_T := fun k => match k with
  | 0 => ("FrameFinder$UnitReader", "sections", "LFrameFinder$Sections;", true)
  | 1 => ("FrameFinder$UnitReader", "entries", "LFrameFinder$Entries;", true)
  | 2 => ("FrameFinder$UnitReader", "abbreviations", "LFrameFinder$Abbreviations;", true)
  | 3 => ("FrameFinder$UnitReader", "info", "LFrameFinder$Cursor;", true)
  | 4 => ("FrameFinder$UnitReader", "table", "LFrameFinder$Cursor;", true)
  | 5 => ("FrameFinder$UnitReader", "latest", "I", false)
  | _ => ("FrameFinder$UnitReader", "depth", "I", false)
def t_Ur : Nat → FieldType := fun k => match k with
  | 0 => .object "FrameFinder$Sections"
  | 1 => .object "FrameFinder$Entries"
  | 2 => .object "FrameFinder$Abbreviations"
  | 3 => .object "FrameFinder$Cursor"
  | 4 => .object "FrameFinder$Cursor"
  | 5 => .int
  | _ => .int
def R_Ab : String := "FrameFinder$Abbreviations"
def F_Ab : u_T := fun k => match k with
  | 0 => ("FrameFinder$Abbreviations", "number", "[J", true)
  | 1 => ("FrameFinder$Abbreviations", "tag", "[J", true)
  | 2 => ("FrameFinder$Abbreviations", "hasChildren", "[Z", true)
  | 3 => ("FrameFinder$Abbreviations", "attributes", "[I", true)
  | 4 => ("FrameFinder$Abbreviations", "attribute", "[J", true)
  | 5 => ("FrameFinder$Abbreviations", "form", "[I", true)
  | 6 => ("FrameFinder$Abbreviations", "constant", "[J", true)
  | _ => ("FrameFinder$Abbreviations", "total", "I", false)
def t_Ab : Nat → FieldType := fun k => match k with
  | 0 => .array .long
  | 1 => .array .long
  | 2 => .array .boolean
  | 3 => .array .int
  | 4 => .array .long
  | 5 => .array .int
  | 6 => .array .long
  | _ => .int
def R_Ra : String := "FrameFinder$Ranges"
def F_Ra : u_T := fun k => match k with
  | 0 => ("FrameFinder$Ranges", "from", "[J", true)
  | 1 => ("FrameFinder$Ranges", "to", "[J", true)
  | 2 => ("FrameFinder$Ranges", "firstOf", "[I", true)
  | 3 => ("FrameFinder$Ranges", "behindOf", "[I", true)
  | _ => ("FrameFinder$Ranges", "total", "I", false)
def t_Ra : Nat → FieldType := fun k => match k with
  | 0 => .array .long
  | 1 => .array .long
  | 2 => .array .int
  | 3 => .array .int
  | _ => .int
def R_Va : String := "FrameFinder$ValueReader"
def F_Va : u_T := fun k => match k with
  | 0 => ("FrameFinder$ValueReader", "sections", "LFrameFinder$Sections;", true)
  | 1 => ("FrameFinder$ValueReader", "entries", "LFrameFinder$Entries;", true)
  | 2 => ("FrameFinder$ValueReader", "ranges", "LFrameFinder$Ranges;", true)
  | 3 => ("FrameFinder$ValueReader", "list", "LFrameFinder$Cursor;", true)
  | 4 => ("FrameFinder$ValueReader", "side", "LFrameFinder$Cursor;", true)
  | 5 => ("FrameFinder$ValueReader", "base", "J", false)
  | _ => ("FrameFinder$ValueReader", "bad", "Z", false)
def t_Va : Nat → FieldType := fun k => match k with
  | 0 => .object "FrameFinder$Sections"
  | 1 => .object "FrameFinder$Entries"
  | 2 => .object "FrameFinder$Ranges"
  | 3 => .object "FrameFinder$Cursor"
  | 4 => .object "FrameFinder$Cursor"
  | 5 => .long
  | _ => .boolean
def R_Ro : String := "FrameFinder$Rows"
def F_Ro : u_T := fun k => match k with
  | 0 => ("FrameFinder$Rows", "address", "[J", true)
  | 1 => ("FrameFinder$Rows", "fileOf", "[J", true)
  | 2 => ("FrameFinder$Rows", "lineOf", "[I", true)
  | 3 => ("FrameFinder$Rows", "isEnd", "[Z", true)
  | 4 => ("FrameFinder$Rows", "firstOf", "[I", true)
  | 5 => ("FrameFinder$Rows", "behindOf", "[I", true)
  | 6 => ("FrameFinder$Rows", "files", "[I", true)
  | 7 => ("FrameFinder$Rows", "fileName", "[I", true)
  | _ => ("FrameFinder$Rows", "total", "I", false)
def t_Ro : Nat → FieldType := fun k => match k with
  | 0 => .array .long
  | 1 => .array .long
  | 2 => .array .int
  | 3 => .array .boolean
  | 4 => .array .int
  | 5 => .array .int
  | 6 => .array .int
  | 7 => .array .int
  | _ => .int
def R_Li : String := "FrameFinder$LineReader"
def F_Li : u_T := fun k => match k with
  | 0 => ("FrameFinder$LineReader", "sections", "LFrameFinder$Sections;", true)
  | 1 => ("FrameFinder$LineReader", "entries", "LFrameFinder$Entries;", true)
  | 2 => ("FrameFinder$LineReader", "rows", "LFrameFinder$Rows;", true)
  | 3 => ("FrameFinder$LineReader", "image", "[B", true)
  | 4 => ("FrameFinder$LineReader", "cursor", "LFrameFinder$Cursor;", true)
  | 5 => ("FrameFinder$LineReader", "forms", "[I", true)
  | 6 => ("FrameFinder$LineReader", "formsTotal", "I", false)
  | 7 => ("FrameFinder$LineReader", "nameForm", "I", false)
  | 8 => ("FrameFinder$LineReader", "lineBase", "I", false)
  | 9 => ("FrameFinder$LineReader", "lineRange", "I", false)
  | 10 => ("FrameFinder$LineReader", "firstSpecial", "I", false)
  | 11 => ("FrameFinder$LineReader", "operandsAt", "I", false)
  | 12 => ("FrameFinder$LineReader", "address", "J", false)
  | 13 => ("FrameFinder$LineReader", "fileNow", "J", false)
  | _ => ("FrameFinder$LineReader", "lineNow", "I", false)
def t_Li : Nat → FieldType := fun k => match k with
  | 0 => .object "FrameFinder$Sections"
  | 1 => .object "FrameFinder$Entries"
  | 2 => .object "FrameFinder$Rows"
  | 3 => .array .byte
  | 4 => .object "FrameFinder$Cursor"
  | 5 => .array .int
  | 6 => .int
  | 7 => .int
  | 8 => .int
  | 9 => .int
  | 10 => .int
  | 11 => .int
  | 12 => .long
  | 13 => .long
  | _ => .int
def R_Sy : String := "FrameFinder$Symbols"
def F_Sy : u_T := fun k => match k with
  | 0 => ("FrameFinder$Symbols", "sections", "LFrameFinder$Sections;", true)
  | 1 => ("FrameFinder$Symbols", "cursor", "LFrameFinder$Cursor;", true)
  | 2 => ("FrameFinder$Symbols", "nameAt", "[I", true)
  | 3 => ("FrameFinder$Symbols", "isFunction", "[Z", true)
  | 4 => ("FrameFinder$Symbols", "from", "[J", true)
  | 5 => ("FrameFinder$Symbols", "to", "[J", true)
  | _ => ("FrameFinder$Symbols", "total", "I", false)
def t_Sy : Nat → FieldType := fun k => match k with
  | 0 => .object "FrameFinder$Sections"
  | 1 => .object "FrameFinder$Cursor"
  | 2 => .array .int
  | 3 => .array .boolean
  | 4 => .array .long
  | 5 => .array .long
  | _ => .int
def R_Fr : String := "FrameFinder$Frames"
def F_Fr : u_T := fun k => match k with
  | 0 => ("FrameFinder$Frames", "image", "[B", true)
  | 1 => ("FrameFinder$Frames", "entries", "LFrameFinder$Entries;", true)
  | 2 => ("FrameFinder$Frames", "ranges", "LFrameFinder$Ranges;", true)
  | 3 => ("FrameFinder$Frames", "rows", "LFrameFinder$Rows;", true)
  | 4 => ("FrameFinder$Frames", "symbols", "LFrameFinder$Symbols;", true)
  | 5 => ("FrameFinder$Frames", "chain", "[I", true)
  | 6 => ("FrameFinder$Frames", "nameAt", "[I", true)
  | 7 => ("FrameFinder$Frames", "nameEnd", "[I", true)
  | 8 => ("FrameFinder$Frames", "fileAt", "[I", true)
  | 9 => ("FrameFinder$Frames", "fileEnd", "[I", true)
  | 10 => ("FrameFinder$Frames", "lineOf", "[I", true)
  | _ => ("FrameFinder$Frames", "total", "I", false)
def t_Fr : Nat → FieldType := fun k => match k with
  | 0 => .array .byte
  | 1 => .object "FrameFinder$Entries"
  | 2 => .object "FrameFinder$Ranges"
  | 3 => .object "FrameFinder$Rows"
  | 4 => .object "FrameFinder$Symbols"
  | 5 => .array .int
  | 6 => .array .int
  | 7 => .array .int
  | 8 => .array .int
  | 9 => .array .int
  | 10 => .array .int
  | _ => .int
def R_Mo : String := "FrameFinderModel"
def F_Mo : u_T := fun k => match k with
  | 0 => ("FrameFinderModel", "spelled", "[J", true)
  | 1 => ("FrameFinderModel", "thrown", "I", false)
  | 2 => ("FrameFinderModel", "file", "[B", true)
  | 3 => ("FrameFinderModel", "size", "I", false)
  | 4 => ("FrameFinderModel", "fault", "I", false)
  | 5 => ("FrameFinderModel", "open", "Z", false)
  | 6 => ("FrameFinderModel", "at", "I", false)
  | 7 => ("FrameFinderModel", "end", "I", false)
  | 8 => ("FrameFinderModel", "bad", "Z", false)
  | 9 => ("FrameFinderModel", "sections", "I", false)
  | 10 => ("FrameFinderModel", "secAt", "[I", true)
  | 11 => ("FrameFinderModel", "secSize", "[I", true)
  | 12 => ("FrameFinderModel", "secSeen", "[Z", true)
  | 13 => ("FrameFinderModel", "abbreviations", "I", false)
  | 14 => ("FrameFinderModel", "number", "[J", true)
  | 15 => ("FrameFinderModel", "tagOf", "[J", true)
  | 16 => ("FrameFinderModel", "attribute", "[J", true)
  | 17 => ("FrameFinderModel", "implied", "[J", true)
  | 18 => ("FrameFinderModel", "hasChildren", "[Z", true)
  | 19 => ("FrameFinderModel", "many", "[I", true)
  | 20 => ("FrameFinderModel", "formOf", "[I", true)
  | 21 => ("FrameFinderModel", "units", "I", false)
  | 22 => ("FrameFinderModel", "entries", "I", false)
  | 23 => ("FrameFinderModel", "opened", "I", false)
  | 24 => ("FrameFinderModel", "unitAt", "[I", true)
  | 25 => ("FrameFinderModel", "unitFirst", "[I", true)
  | 26 => ("FrameFinderModel", "pile", "[I", true)
  | 27 => ("FrameFinderModel", "entryAt", "[I", true)
  | 28 => ("FrameFinderModel", "tag", "[I", true)
  | 29 => ("FrameFinderModel", "around", "[I", true)
  | 30 => ("FrameFinderModel", "unitOf", "[I", true)
  | 31 => ("FrameFinderModel", "form", "[I", true)
  | 32 => ("FrameFinderModel", "value", "[J", true)
  | 33 => ("FrameFinderModel", "ranges", "I", false)
  | 34 => ("FrameFinderModel", "rangeFrom", "[I", true)
  | 35 => ("FrameFinderModel", "low", "[J", true)
  | 36 => ("FrameFinderModel", "high", "[J", true)
  | 37 => ("FrameFinderModel", "found", "J", false)
  | 38 => ("FrameFinderModel", "rows", "I", false)
  | 39 => ("FrameFinderModel", "files", "[I", true)
  | 40 => ("FrameFinderModel", "fileName", "[I", true)
  | 41 => ("FrameFinderModel", "rowLine", "[I", true)
  | 42 => ("FrameFinderModel", "rowsFrom", "[I", true)
  | 43 => ("FrameFinderModel", "whatForm", "[I", true)
  | 44 => ("FrameFinderModel", "rowAddress", "[J", true)
  | 45 => ("FrameFinderModel", "rowFile", "[J", true)
  | 46 => ("FrameFinderModel", "rowEnd", "[Z", true)
  | 47 => ("FrameFinderModel", "lineAddress", "J", false)
  | 48 => ("FrameFinderModel", "lineFile", "J", false)
  | 49 => ("FrameFinderModel", "lineLine", "I", false)
  | 50 => ("FrameFinderModel", "firstCode", "I", false)
  | 51 => ("FrameFinderModel", "lengths", "I", false)
  | 52 => ("FrameFinderModel", "lineBase", "I", false)
  | 53 => ("FrameFinderModel", "lineRange", "I", false)
  | 54 => ("FrameFinderModel", "symbols", "I", false)
  | 55 => ("FrameFinderModel", "chain", "I", false)
  | 56 => ("FrameFinderModel", "frames", "I", false)
  | 57 => ("FrameFinderModel", "symbolName", "I", false)
  | 58 => ("FrameFinderModel", "link", "[I", true)
  | _ => ("FrameFinderModel", "sought", "J", false)
def t_Mo : Nat → FieldType := fun k => match k with
  | 0 => .array .long
  | 1 => .int
  | 2 => .array .byte
  | 3 => .int
  | 4 => .int
  | 5 => .boolean
  | 6 => .int
  | 7 => .int
  | 8 => .boolean
  | 9 => .int
  | 10 => .array .int
  | 11 => .array .int
  | 12 => .array .boolean
  | 13 => .int
  | 14 => .array .long
  | 15 => .array .long
  | 16 => .array .long
  | 17 => .array .long
  | 18 => .array .boolean
  | 19 => .array .int
  | 20 => .array .int
  | 21 => .int
  | 22 => .int
  | 23 => .int
  | 24 => .array .int
  | 25 => .array .int
  | 26 => .array .int
  | 27 => .array .int
  | 28 => .array .int
  | 29 => .array .int
  | 30 => .array .int
  | 31 => .array .int
  | 32 => .array .long
  | 33 => .int
  | 34 => .array .int
  | 35 => .array .long
  | 36 => .array .long
  | 37 => .long
  | 38 => .int
  | 39 => .array .int
  | 40 => .array .int
  | 41 => .array .int
  | 42 => .array .int
  | 43 => .array .int
  | 44 => .array .long
  | 45 => .array .long
  | 46 => .array .boolean
  | 47 => .long
  | 48 => .long
  | 49 => .int
  | 50 => .int
  | 51 => .int
  | 52 => .int
  | 53 => .int
  | 54 => .int
  | 55 => .int
  | 56 => .int
  | 57 => .int
  | 58 => .array .int
  | _ => .long
def cl_c : List vw_C := [(R_F, F_F, 13), (R_Se, F_Se, 11), (R_Cu, F_Cu, 4), (R_En, F_En, 12), (R_Ur, F_Ur, 7), (R_Ab, F_Ab, 8), (R_Ra, F_Ra, 5), (R_Va, F_Va, 7), (R_Ro, F_Ro, 9), (R_Li, F_Li, 15), (R_Sy, F_Sy, 7), (R_Fr, F_Fr, 12)]
def cl_m : List vw_C := [(R_Mo, F_Mo, 60)]
def sl_c : List am_C := [.inr (0, [some (some 1), some (some 2), some (some 10), some (some 21), some (some 32), some (some 37), some (some 40), some (some 49), some (some 52), some (some 58), none, none, none]), .inl (2, .byte, 3000), .inr (1, [some (some 1), some (some 9), some (some 3), some (some 4), some (some 5), some (some 6), some (some 7), some (some 8), none, none, none]), .inl (0, .int, 24), .inl (0, .int, 24), .inl (1, .long, 24), .inl (0, .int, 10), .inl (0, .int, 10), .inl (3, .boolean, 10), .inr (2, [some (some 1), none, none, none]), .inr (3, [some (some 11), some (some 12), some (some 13), some (some 14), some (some 15), some (some 16), some (some 17), some (some 18), some (some 19), some (some 20), none, none]), .inl (1, .long, 200), .inl (0, .int, 200), .inl (0, .int, 200), .inl (0, .int, 200), .inl (0, .int, 1400), .inl (1, .long, 1400), .inl (0, .int, 4), .inl (0, .int, 4), .inl (0, .int, 16), .inl (1, .long, 16), .inr (4, [some (some 2), some (some 10), some (some 22), some (some 30), some (some 31), none, none]), .inr (5, [some (some 23), some (some 24), some (some 25), some (some 26), some (some 27), some (some 28), some (some 29), none]), .inl (1, .long, 40), .inl (1, .long, 40), .inl (3, .boolean, 40), .inl (0, .int, 40), .inl (1, .long, 480), .inl (0, .int, 480), .inl (1, .long, 480), .inr (2, [some (some 1), none, none, none]), .inr (2, [some (some 1), none, none, none]), .inr (6, [some (some 33), some (some 34), some (some 35), some (some 36), none]), .inl (1, .long, 300), .inl (1, .long, 300), .inl (0, .int, 200), .inl (0, .int, 200), .inr (7, [some (some 2), some (some 10), some (some 32), some (some 38), some (some 39), some none, none]), .inr (2, [some (some 1), none, none, none]), .inr (2, [some (some 1), none, none, none]), .inr (8, [some (some 41), some (some 42), some (some 43), some (some 44), some (some 45), some (some 46), some (some 47), some (some 48), none]), .inl (1, .long, 400), .inl (1, .long, 400), .inl (0, .int, 400), .inl (3, .boolean, 400), .inl (0, .int, 4), .inl (0, .int, 4), .inl (0, .int, 4), .inl (0, .int, 120), .inr (9, [some (some 2), some (some 10), some (some 40), some (some 1), some (some 51), some (some 50), none, none, none, none, none, none, some none, some none, none]), .inl (0, .int, 6), .inr (2, [some (some 1), none, none, none]), .inr (10, [some (some 2), some (some 57), some (some 53), some (some 54), some (some 55), some (some 56), none]), .inl (0, .int, 60), .inl (3, .boolean, 60), .inl (1, .long, 60), .inl (1, .long, 60), .inr (2, [some (some 1), none, none, none]), .inr (11, [some (some 1), some (some 10), some (some 32), some (some 40), some (some 52), some (some 59), some (some 60), some (some 61), some (some 62), some (some 63), some (some 64), none]), .inl (0, .int, 16), .inl (0, .int, 16), .inl (0, .int, 16), .inl (0, .int, 16), .inl (0, .int, 16), .inl (0, .int, 16), .inl (0, .int, 7), .inl (0, .int, 7), .inl (0, .int, 4)]
def sh_c (k : Nat) : am_C := sl_c.getD k (.inl (9, .int, 0))
def cs_c (k j : Nat) : Int32 := match k with
  | 65 => ([127, 69, 76, 70, 2, 1, 1] : List Int32).getD j 0
  | 66 => ([3, 17, 18, 85, 49, 88, 89] : List Int32).getD j 0
  | 67 => ([16, 114, 115, 116] : List Int32).getD j 0
  | _ => 0
def S_c : am_Sy := (cl_c, sh_c, (65, 68, cs_c), tw_, nw_, "FrameFinder", [(65, "FrameFinder", "MAGIC", "[I"), (66, "FrameFinder", "ATTRIBUTES", "[I"), (67, "FrameFinder", "UNIT_ATTRIBUTES", "[I")], [(Bundle.tN, "UNASSIGNED_STACK", Bundle.steD), (Bundle.tN, "SUPPRESSED_SENTINEL", Bundle.listD)])
def sl_m : List am_C := [.inr (0, [some (some 1), none, some (some 2), none, none, none, none, none, none, none, some (some 3), some (some 4), some (some 5), none, some (some 6), some (some 7), some (some 8), some (some 9), some (some 10), some (some 11), some (some 12), none, none, none, some (some 13), some (some 14), some (some 15), some (some 16), some (some 17), some (some 18), some (some 19), some (some 20), some (some 21), none, some (some 22), some (some 23), some (some 24), some none, none, some (some 25), some (some 26), some (some 27), some (some 28), some (some 29), some (some 30), some (some 31), some (some 32), some none, some none, none, none, none, none, none, none, none, none, none, some (some 33), some none]), .inl (1, .long, 30), .inl (2, .byte, 3000), .inl (0, .int, 10), .inl (0, .int, 10), .inl (3, .boolean, 10), .inl (1, .long, 40), .inl (1, .long, 40), .inl (1, .long, 480), .inl (1, .long, 480), .inl (3, .boolean, 40), .inl (0, .int, 40), .inl (0, .int, 480), .inl (0, .int, 4), .inl (0, .int, 4), .inl (0, .int, 16), .inl (0, .int, 200), .inl (0, .int, 200), .inl (0, .int, 200), .inl (0, .int, 200), .inl (0, .int, 2200), .inl (1, .long, 2200), .inl (0, .int, 201), .inl (1, .long, 300), .inl (1, .long, 300), .inl (0, .int, 4), .inl (0, .int, 120), .inl (0, .int, 400), .inl (0, .int, 5), .inl (0, .int, 6), .inl (1, .long, 400), .inl (1, .long, 400), .inl (3, .boolean, 400), .inl (0, .int, 200)]
def sh_m (k : Nat) : am_C := sl_m.getD k (.inl (9, .int, 0))
def cs_m (k j : Nat) : Int32 := match k with
  | _ => 0
def S_m : am_Sy := (cl_m, sh_m, (34, 34, cs_m), tw_, nw_, "FrameFinderModel", [], [])
def Y_F : am_Y := (R_F, [(156, .long (-9223372036854775808))], [(9, 0, 0, 2, false), (18, 0, 1, 2, false), (25, 0, 2, 2, false), (34, 0, 3, 2, false), (41, 0, 4, 2, false), (50, 0, 5, 2, false), (57, 0, 6, 2, false), (66, 0, 7, 2, false), (75, 0, 8, 2, false), (84, 0, 9, 2, false), (88, 0, 10, 0, false), (95, 0, 12, 0, false), (111, 0, 11, 3, false), (115, 3, 10, 0, true), (118, 1, 8, 0, true), (119, 3, 11, 0, true), (122, 6, 4, 0, true), (123, 8, 8, 0, true), (124, 10, 6, 0, true), (135, 11, 6, 2, true), (139, 11, 7, 2, true), (146, 11, 8, 2, true), (149, 11, 9, 2, true), (152, 11, 10, 2, true), (155, 11, 11, 0, true)], [])
theorem kY_F : am_kok Y_F tw_ := am_kB_ok (hs := [1207]) (by decide +kernel)
theorem fY_F : am_fok Y_F cl_c tw_ nw_ "FrameFinder" := am_fB_ok (hs := [580, 581, 582, 583, 584, 585, 586, 587, 588, 589, 590, 592, 591, 257, 196, 261, 366, 425, 515, 544, 546, 548, 550, 552, 554]) (by decide +kernel)
theorem sY_F : am_sok Y_F (am_zs S_c) tw_ nw_ "FrameFinder" := am_sB_ok (hs := []) (by decide +kernel)
set_option maxRecDepth 100000 in
theorem oY_F : am_okY S_c Y_F := ⟨kY_F, fY_F, sY_F⟩
def Y_Se : am_Y := (R_Se, [(93, .long (64)), (98, .long (16)), (104, .long (8))], [(9, 1, 2, 2, false), (15, 1, 3, 2, false), (18, 1, 4, 2, false), (22, 1, 5, 2, false), (25, 1, 6, 2, false), (28, 1, 7, 2, false), (32, 1, 0, 2, false), (41, 1, 1, 2, false), (49, 1, 8, 0, false), (61, 2, 1, 0, true), (64, 2, 2, 0, true), (67, 2, 3, 3, true), (90, 1, 10, 0, false), (95, 1, 9, 0, false)], [(79, 65, 0, true)])
theorem kY_Se : am_kok Y_Se tw_ := am_kB_ok (hs := [686, 691, 696]) (by decide +kernel)
theorem fY_Se : am_fok Y_Se cl_c tw_ nw_ "FrameFinder" := am_fB_ok (hs := [189, 190, 191, 192, 193, 194, 187, 188, 195, 161, 166, 171, 198, 197]) (by decide +kernel)
theorem sY_Se : am_sok Y_Se (am_zs S_c) tw_ nw_ "FrameFinder" := am_sB_ok (hs := [676]) (by decide +kernel)
set_option maxRecDepth 100000 in
theorem oY_Se : am_okY S_c Y_Se := ⟨kY_Se, fY_Se, sY_Se⟩
def Y_Cu : am_Y := (R_Cu, [(30, .long (-1))], [(9, 2, 0, 2, false), (15, 2, 1, 0, false), (19, 2, 2, 0, false), (22, 2, 3, 3, false)], [])
theorem kY_Cu : am_kok Y_Cu tw_ := am_kB_ok (hs := [809]) (by decide +kernel)
theorem fY_Cu : am_fok Y_Cu cl_c tw_ nw_ "FrameFinder" := am_fB_ok (hs := [156, 157, 162, 167]) (by decide +kernel)
theorem sY_Cu : am_sok Y_Cu (am_zs S_c) tw_ nw_ "FrameFinder" := am_sB_ok (hs := []) (by decide +kernel)
set_option maxRecDepth 100000 in
theorem oY_Cu : am_okY S_c Y_Cu := ⟨kY_Cu, fY_Cu, sY_Cu⟩
def Y_En : am_Y := (R_En, [(68, .long (17)), (70, .long (46)), (72, .long (29)), (74, .long (11))], [(9, 3, 0, 2, false), (15, 3, 1, 2, false), (19, 3, 2, 2, false), (22, 3, 3, 2, false), (25, 3, 4, 2, false), (28, 3, 5, 2, false), (31, 3, 6, 2, false), (34, 3, 7, 2, false), (37, 3, 8, 2, false), (40, 3, 9, 2, false), (43, 3, 10, 0, false), (47, 3, 11, 0, false)], [(50, 66, 1, true), (57, 67, 2, true)])
theorem kY_En : am_kok Y_En tw_ := am_kB_ok (hs := [890, 891, 892, 893]) (by decide +kernel)
theorem fY_En : am_fok Y_En cl_c tw_ nw_ "FrameFinder" := am_fB_ok (hs := [228, 231, 234, 237, 239, 241, 243, 245, 247, 250, 253, 258]) (by decide +kernel)
theorem sY_En : am_sok Y_En (am_zs S_c) tw_ nw_ "FrameFinder" := am_sB_ok (hs := [879, 884]) (by decide +kernel)
set_option maxRecDepth 100000 in
theorem oY_En : am_okY S_c Y_En := ⟨kY_En, fY_En, sY_En⟩
def Y_Ur : am_Y := (R_Ur, [(71, .long (5)), (73, .long (8)), (115, .long (17))], [(9, 4, 0, 2, false), (15, 4, 1, 2, false), (22, 4, 2, 2, false), (31, 4, 3, 2, false), (35, 4, 4, 2, false), (49, 2, 2, 0, true), (53, 2, 1, 0, true), (67, 2, 3, 3, true), (83, 4, 5, 0, false), (86, 4, 6, 0, false), (89, 3, 10, 0, true), (103, 3, 1, 2, true), (111, 5, 1, 2, true), (121, 5, 3, 2, true), (124, 5, 5, 2, true), (127, 5, 4, 2, true), (130, 5, 6, 2, true), (141, 5, 2, 2, true)], [])
theorem kY_Ur : am_kok Y_Ur tw_ := am_kB_ok (hs := [791, 792, 863]) (by decide +kernel)
theorem fY_Ur : am_fok Y_Ur cl_c tw_ nw_ "FrameFinder" := am_fB_ok (hs := [332, 333, 334, 335, 336, 164, 159, 169, 337, 338, 256, 232, 301, 305, 309, 307, 311, 303]) (by decide +kernel)
theorem sY_Ur : am_sok Y_Ur (am_zs S_c) tw_ nw_ "FrameFinder" := am_sB_ok (hs := []) (by decide +kernel)
set_option maxRecDepth 100000 in
theorem oY_Ur : am_okY S_c Y_Ur := ⟨kY_Ur, fY_Ur, sY_Ur⟩
def Y_Ab : am_Y := (R_Ab, [(64, .long (33)), (75, .long (19)), (77, .long (23)), (79, .long (24)), (81, .long (27)), (83, .long (35)), (85, .long (11)), (87, .long (5)), (89, .long (6)), (91, .long (7)), (93, .long (13)), (95, .long (15)), (97, .long (25)), (99, .long (8)), (101, .long (14)), (103, .long (31)), (105, .long (37))], [(9, 5, 0, 2, false), (15, 5, 1, 2, false), (18, 5, 2, 2, false), (22, 5, 3, 2, false), (26, 5, 4, 2, false), (29, 5, 5, 2, false), (32, 5, 6, 2, false), (35, 5, 7, 0, false), (45, 2, 3, 3, true)], [])
theorem kY_Ab : am_kok Y_Ab tw_ := am_kB_ok (hs := [831, 840, 841, 842, 843, 844, 825, 826, 827, 828, 829, 830, 832, 836, 837, 838, 839]) (by decide +kernel)
theorem fY_Ab : am_fok Y_Ab cl_c tw_ nw_ "FrameFinder" := am_fB_ok (hs := [299, 300, 302, 304, 306, 308, 310, 312, 168]) (by decide +kernel)
theorem sY_Ab : am_sok Y_Ab (am_zs S_c) tw_ nw_ "FrameFinder" := am_sB_ok (hs := []) (by decide +kernel)
set_option maxRecDepth 100000 in
theorem oY_Ab : am_okY S_c Y_Ab := ⟨kY_Ab, fY_Ab, sY_Ab⟩
def Y_Ra : am_Y := (R_Ra, [], [(9, 6, 0, 2, false), (15, 6, 1, 2, false), (18, 6, 2, 2, false), (22, 6, 3, 2, false), (25, 6, 4, 0, false)], [])
theorem kY_Ra : am_kok Y_Ra tw_ := am_kB_ok (hs := []) (by decide +kernel)
theorem fY_Ra : am_fok Y_Ra cl_c tw_ nw_ "FrameFinder" := am_fB_ok (hs := [360, 361, 362, 363, 364]) (by decide +kernel)
theorem sY_Ra : am_sok Y_Ra (am_zs S_c) tw_ nw_ "FrameFinder" := am_sB_ok (hs := []) (by decide +kernel)
set_option maxRecDepth 100000 in
theorem oY_Ra : am_okY S_c Y_Ra := ⟨kY_Ra, fY_Ra, sY_Ra⟩
def Y_Va : am_Y := (R_Va, [(153, .long (46)), (155, .long (29)), (192, .long (3000))], [(9, 7, 0, 2, false), (15, 7, 1, 2, false), (19, 7, 2, 2, false), (28, 7, 3, 2, false), (32, 7, 4, 2, false), (35, 7, 6, 3, false), (39, 6, 4, 0, true), (45, 3, 11, 0, true), (50, 3, 8, 2, true), (54, 3, 10, 0, true), (87, 3, 5, 2, true), (91, 3, 4, 2, true), (98, 3, 2, 2, true), (147, 3, 7, 2, true), (150, 3, 0, 2, true), (157, 3, 3, 2, true), (160, 3, 6, 2, true), (163, 7, 5, 1, false), (174, 2, 3, 3, true), (189, 3, 9, 2, true)], [])
theorem kY_Va : am_kok Y_Va tw_ := am_kB_ok (hs := [971, 972, 943]) (by decide +kernel)
theorem fY_Va : am_fok Y_Va cl_c tw_ nw_ "FrameFinder" := am_fB_ok (hs := [386, 387, 388, 389, 390, 392, 365, 260, 248, 254, 242, 240, 235, 246, 230, 238, 244, 391, 173, 252]) (by decide +kernel)
theorem sY_Va : am_sok Y_Va (am_zs S_c) tw_ nw_ "FrameFinder" := am_sB_ok (hs := []) (by decide +kernel)
set_option maxRecDepth 100000 in
theorem oY_Va : am_okY S_c Y_Va := ⟨kY_Va, fY_Va, sY_Va⟩
def Y_Ro : am_Y := (R_Ro, [], [(9, 8, 0, 2, false), (15, 8, 1, 2, false), (18, 8, 2, 2, false), (22, 8, 3, 2, false), (26, 8, 4, 2, false), (29, 8, 5, 2, false), (32, 8, 6, 2, false), (35, 8, 7, 2, false), (38, 8, 8, 0, false)], [])
theorem kY_Ro : am_kok Y_Ro tw_ := am_kB_ok (hs := []) (by decide +kernel)
theorem fY_Ro : am_fok Y_Ro cl_c tw_ nw_ "FrameFinder" := am_fB_ok (hs := [414, 415, 417, 419, 420, 421, 422, 423, 424]) (by decide +kernel)
theorem sY_Ro : am_sok Y_Ro (am_zs S_c) tw_ nw_ "FrameFinder" := am_sB_ok (hs := []) (by decide +kernel)
set_option maxRecDepth 100000 in
theorem oY_Ro : am_okY S_c Y_Ro := ⟨kY_Ro, fY_Ro, sY_Ro⟩
def Y_Li : am_Y := (R_Li, [(88, .long (5)), (90, .long (8)), (140, .long (31)), (142, .long (11)), (144, .long (15))], [(9, 9, 5, 2, false), (15, 9, 3, 2, false), (19, 9, 0, 2, false), (23, 9, 1, 2, false), (27, 9, 2, 2, false), (36, 9, 4, 2, false), (45, 3, 11, 0, true), (55, 3, 8, 2, true), (58, 3, 9, 2, true), (79, 2, 3, 3, true), (83, 2, 2, 0, true), (85, 2, 1, 0, true), (107, 9, 8, 0, false), (110, 9, 9, 0, false), (113, 9, 10, 0, false), (116, 9, 11, 0, false), (126, 9, 6, 0, false), (137, 9, 7, 0, false), (168, 9, 12, 1, false), (172, 9, 13, 1, false), (175, 9, 14, 0, false)], [])
theorem kY_Li : am_kok Y_Li tw_ := am_kB_ok (hs := [1021, 1022, 1037, 1038, 1039]) (by decide +kernel)
theorem fY_Li : am_fok Y_Li cl_c tw_ nw_ "FrameFinder" := am_fB_ok (hs := [458, 456, 453, 454, 455, 457, 259, 249, 251, 170, 165, 160, 461, 462, 463, 464, 459, 460, 465, 466, 467]) (by decide +kernel)
theorem sY_Li : am_sok Y_Li (am_zs S_c) tw_ nw_ "FrameFinder" := am_sB_ok (hs := []) (by decide +kernel)
set_option maxRecDepth 100000 in
theorem oY_Li : am_okY S_c Y_Li := ⟨kY_Li, fY_Li, sY_Li⟩
def Y_Sy : am_Y := (R_Sy, [(71, .long (15)), (73, .long (2)), (75, .long (3))], [(9, 10, 2, 2, false), (15, 10, 3, 2, false), (19, 10, 4, 2, false), (23, 10, 5, 2, false), (26, 10, 0, 2, false), (35, 10, 1, 2, false), (39, 10, 6, 0, false), (49, 2, 2, 0, true), (52, 2, 1, 0, true), (81, 2, 3, 3, true)], [])
theorem kY_Sy : am_kok Y_Sy tw_ := am_kB_ok (hs := [1102, 1103, 1104]) (by decide +kernel)
theorem fY_Sy : am_fok Y_Sy cl_c tw_ nw_ "FrameFinder" := am_fB_ok (hs := [509, 511, 512, 513, 507, 508, 514, 163, 158, 172]) (by decide +kernel)
theorem sY_Sy : am_sok Y_Sy (am_zs S_c) tw_ nw_ "FrameFinder" := am_sB_ok (hs := []) (by decide +kernel)
set_option maxRecDepth 100000 in
theorem oY_Sy : am_okY S_c Y_Sy := ⟨kY_Sy, fY_Sy, sY_Sy⟩
def Y_Fr : am_Y := (R_Fr, [(79, .long (46)), (98, .long (29)), (107, .long (11))], [(9, 11, 5, 2, false), (15, 11, 6, 2, false), (18, 11, 7, 2, false), (21, 11, 8, 2, false), (24, 11, 9, 2, false), (27, 11, 10, 2, false), (30, 11, 0, 2, false), (34, 11, 1, 2, false), (38, 11, 2, 2, false), (42, 11, 3, 2, false), (46, 11, 4, 2, false), (50, 11, 11, 0, false), (67, 10, 2, 2, true), (72, 3, 10, 0, true), (75, 3, 0, 2, true), (104, 3, 1, 2, true), (113, 3, 2, 2, true), (125, 8, 1, 2, true), (131, 8, 2, 2, true)], [])
theorem kY_Fr : am_kok Y_Fr tw_ := am_kB_ok (hs := [1199, 1216, 1221]) (by decide +kernel)
theorem fY_Fr : am_fok Y_Fr cl_c tw_ nw_ "FrameFinder" := am_fB_ok (hs := [542, 543, 545, 547, 549, 551, 537, 538, 539, 540, 541, 553, 510, 255, 229, 233, 236, 416, 418]) (by decide +kernel)
theorem sY_Fr : am_sok Y_Fr (am_zs S_c) tw_ nw_ "FrameFinder" := am_sB_ok (hs := []) (by decide +kernel)
set_option maxRecDepth 100000 in
theorem oY_Fr : am_okY S_c Y_Fr := ⟨kY_Fr, fY_Fr, sY_Fr⟩
def Y_Mo : am_Y := (R_Mo, [(7, .long (7016440498326168622)), (9, .long (508508136034)), (11, .long (7592901250629592110)), (13, .long (7300718)), (15, .long (8313477191008871470)), (17, .long (29300)), (19, .long (7809074032743375918)), (21, .long (32216186215558761)), (23, .long (7310299210293670516)), (25, .long (29556)), (27, .long (7496804)), (29, .long (8241419596970943534)), (31, .long (32497661360498542)), (33, .long (6647401)), (35, .long (27691700398420782)), (37, .long (27691700481979182)), (181, .long (-1)), (195, .long (282584257676671)), (197, .long (64)), (199, .long (24)), (205, .long (255)), (207, .long (8)), (235, .long (33)), (248, .long (2)), (273, .long (17)), (282, .long (5)), (297, .long (3000)), (371, .long (31)), (373, .long (11)), (375, .long (15)), (380, .long (30)), (392, .long (9)), (409, .long (10)), (411, .long (200)), (444, .long (-9223372036854775808))], [(39, 0, 0, 2, false), (45, 0, 2, 2, false), (49, 0, 10, 2, false), (53, 0, 11, 2, false), (56, 0, 12, 2, false), (60, 0, 14, 2, false), (63, 0, 15, 2, false), (66, 0, 16, 2, false), (69, 0, 17, 2, false), (72, 0, 18, 2, false), (75, 0, 19, 2, false), (78, 0, 20, 2, false), (81, 0, 24, 2, false), (84, 0, 25, 2, false), (87, 0, 26, 2, false), (90, 0, 27, 2, false), (93, 0, 28, 2, false), (96, 0, 29, 2, false), (99, 0, 30, 2, false), (102, 0, 31, 2, false), (105, 0, 32, 2, false), (108, 0, 34, 2, false), (111, 0, 35, 2, false), (114, 0, 36, 2, false), (117, 0, 39, 2, false), (120, 0, 40, 2, false), (123, 0, 41, 2, false), (126, 0, 42, 2, false), (129, 0, 43, 2, false), (132, 0, 44, 2, false), (135, 0, 45, 2, false), (138, 0, 46, 2, false), (141, 0, 58, 2, false), (144, 0, 1, 0, false), (148, 0, 3, 0, false), (154, 0, 5, 3, false), (158, 0, 56, 0, false), (161, 0, 55, 0, false), (164, 0, 8, 3, false), (167, 0, 6, 0, false), (170, 0, 7, 0, false), (213, 0, 9, 0, false), (237, 0, 13, 0, false), (257, 0, 22, 0, false), (260, 0, 23, 0, false), (263, 0, 21, 0, false), (313, 0, 37, 1, false), (340, 0, 33, 0, false), (359, 0, 47, 1, false), (362, 0, 48, 1, false), (365, 0, 49, 0, false), (368, 0, 38, 0, false), (394, 0, 50, 0, false), (397, 0, 53, 0, false), (400, 0, 52, 0, false), (406, 0, 51, 0, false), (423, 0, 54, 0, false), (441, 0, 4, 0, false), (449, 0, 59, 1, false), (470, 0, 57, 0, false)], [])
theorem kY_Mo : am_kok Y_Mo tw_ := am_kB_ok (hs := [1269, 1270, 1271, 1272, 1273, 1274, 1275, 1276, 1277, 1278, 1279, 1280, 1281, 1282, 1283, 1284, 1551, 1498, 1499, 1500, 1521, 1508, 1564, 1556, 1569, 1534, 1625, 1682, 1683, 1684, 1685, 1706, 1672, 1673, 1737]) (by decide +kernel)
theorem fY_Mo : am_fok Y_Mo cl_m tw_ nw_ "FrameFinderModel" := am_fB_ok (hs := [1285, 1287, 1295, 1296, 1297, 1299, 1300, 1301, 1302, 1303, 1304, 1305, 1309, 1310, 1311, 1312, 1313, 1314, 1315, 1316, 1317, 1319, 1320, 1321, 1324, 1325, 1326, 1327, 1328, 1329, 1330, 1331, 1343, 1286, 1288, 1290, 1341, 1340, 1293, 1291, 1292, 1294, 1298, 1307, 1308, 1306, 1322, 1318, 1332, 1333, 1334, 1323, 1335, 1338, 1337, 1336, 1339, 1289, 1344, 1342]) (by decide +kernel)
theorem sY_Mo : am_sok Y_Mo (am_zs S_m) tw_ nw_ "FrameFinderModel" := am_sB_ok (hs := []) (by decide +kernel)
set_option maxRecDepth 100000 in
theorem oY_Mo : am_okY S_m Y_Mo := ⟨kY_Mo, fY_Mo, sY_Mo⟩
end
section
def cd_F_load : List (Option am_I) := [some (.iload_n 1, 1, xN), some (.iconst 1, 1, xI (1)), some (.if_icmp .lt (21), 3, xJ 23), none, none, some (.iload_n 1, 1, xN), some (.bipush 8, 2, xI (8)), none,
  some (.if_icmp .gt (15), 3, xJ 23), none, none, some (.iload_n 1, 1, xN), some (.sipush 3000, 3, xI (3000)), none, none, some (.aload_n 0, 1, xN),
  some (.getfield 88, 3, xF 0 10 0), none, none, some (.isub, 1, xN), some (.if_icmp .le (5), 3, xJ 25), none, none, some (.iconst 0, 1, xI (0)),
  some (.ireturn, 1, xN), some (.iconst 0, 1, xI (0)), some (.istore 4, 2, xN), none, some (.iload 4, 2, xN), none, some (.iload_n 1, 1, xN), some (.if_icmp .ge (30), 3, xJ 61),
  none, none, some (.aload_n 0, 1, xN), some (.getfield 9, 3, xF 0 0 2), none, none, some (.aload_n 0, 1, xN), some (.getfield 88, 3, xF 0 10 0),
  none, none, some (.iload 4, 2, xN), none, some (.iadd, 1, xN), some (.lload_n 2, 1, xN), some (.bipush 8, 2, xI (8)), none,
  some (.iload 4, 2, xN), none, some (.imul, 1, xN), some (.lushr, 1, xN), some (.l2i, 1, xN), some (.i2b, 1, xN), some (.bastore, 1, xJ 2), some (.iinc 4 (1), 3, xI (1)),
  none, none, some (.goto (-30), 3, xJ 28), none, none, some (.aload_n 0, 1, xN), some (.dup, 1, xN), some (.getfield 88, 3, xF 0 10 0),
  none, none, some (.iload_n 1, 1, xN), some (.iadd, 1, xN), some (.putfield 88, 3, xF 0 10 0), none, none, some (.aload_n 0, 1, xN),
  some (.invokevirtual 92, 3, xN), none, none, some (.iconst 1, 1, xI (1)), some (.ireturn, 1, xN)]
def M_F_load : am_Me := (⟨R_F, "load", "(IJ)Z"⟩, prog_1_method_2_code, 5, (some .boolean), Y_F, cd_F_load, 1, 20, 0, 0)
set_option maxRecDepth 100000 in
theorem ok_F_load : am_ok S_c M_F_load := am_ok_ofY (Y := Y_F) (cd := cd_F_load) (by decide +kernel) rfl rfl rfl oY_F (by decide +kernel)
def cd_F_clear : List (Option am_I) := [some (.aload_n 0, 1, xN), some (.iconst 0, 1, xI (0)), some (.putfield 88, 3, xF 0 10 0), none, none, some (.aload_n 0, 1, xN), some (.invokevirtual 92, 3, xN), none,
  none, some (.return_, 1, xN)]
def M_F_clear : am_Me := (⟨R_F, "clear", "()V"⟩, prog_1_method_3_code, 1, none, Y_F, cd_F_clear, 1, 20, 0, 0)
set_option maxRecDepth 100000 in
theorem ok_F_clear : am_ok S_c M_F_clear := am_ok_ofY (Y := Y_F) (cd := cd_F_clear) (by decide +kernel) rfl rfl rfl oY_F (by decide +kernel)
def cd_F_open : List (Option am_I) := [some (.aload_n 0, 1, xN), some (.invokevirtual 92, 3, xN), none, none, some (.aload_n 0, 1, xN), some (.iconst 0, 1, xI (0)), some (.putfield 95, 3, xF 0 12 0), none,
  none, some (.aload_n 0, 1, xN), some (.getfield 18, 3, xF 0 1 2), none, none, some (.aload_n 0, 1, xN), some (.getfield 88, 3, xF 0 10 0), none,
  none, some (.invokevirtual 98, 3, xN), none, none, some (.ifCond .ne (11), 3, xJ 31), none, none, some (.aload_n 0, 1, xN),
  some (.iconst 1, 1, xI (1)), some (.putfield 95, 3, xF 0 12 0), none, none, some (.goto (72), 3, xJ 100), none, none, some (.aload_n 0, 1, xN),
  some (.getfield 34, 3, xF 0 3 2), none, none, some (.invokevirtual 102, 3, xN), none, none, some (.ifCond .ne (11), 3, xJ 49), none,
  none, some (.aload_n 0, 1, xN), some (.iconst 2, 1, xI (2)), some (.putfield 95, 3, xF 0 12 0), none, none, some (.goto (54), 3, xJ 100), none,
  none, some (.aload_n 0, 1, xN), some (.getfield 50, 3, xF 0 5 2), none, none, some (.invokevirtual 105, 3, xN), none, none,
  some (.ifCond .ne (11), 3, xJ 67), none, none, some (.aload_n 0, 1, xN), some (.iconst 3, 1, xI (3)), some (.putfield 95, 3, xF 0 12 0), none, none,
  some (.goto (36), 3, xJ 100), none, none, some (.aload_n 0, 1, xN), some (.getfield 66, 3, xF 0 7 2), none, none, some (.invokevirtual 106, 3, xN),
  none, none, some (.ifCond .ne (11), 3, xJ 85), none, none, some (.aload_n 0, 1, xN), some (.iconst 4, 1, xI (4)), some (.putfield 95, 3, xF 0 12 0),
  none, none, some (.goto (18), 3, xJ 100), none, none, some (.aload_n 0, 1, xN), some (.getfield 75, 3, xF 0 8 2), none,
  none, some (.invokevirtual 107, 3, xN), none, none, some (.ifCond .ne (8), 3, xJ 100), none, none, some (.aload_n 0, 1, xN),
  some (.iconst 5, 1, xI (5)), some (.putfield 95, 3, xF 0 12 0), none, none, some (.aload_n 0, 1, xN), some (.getfield 95, 3, xF 0 12 0), none, none,
  some (.ifCond .eq (11), 3, xJ 115), none, none, some (.new 108, 3, xN), none, none, some (.dup, 1, xN), some (.invokespecial 110, 3, xN),
  none, none, some (.athrow, 1, xN), some (.aload_n 0, 1, xN), some (.iconst 1, 1, xI (1)), some (.putfield 111, 3, xF 0 11 3), none, none,
  some (.aload_n 0, 1, xN), some (.getfield 25, 3, xF 0 2 2), none, none, some (.getfield 115, 3, xF 3 10 0), none, none, some (.ireturn, 1, xN)]
def M_F_open : am_Me := (⟨R_F, "open", "()I"⟩, prog_1_method_4_code, 1, (some .int), Y_F, cd_F_open, 7, 173, 1, 6)
set_option maxRecDepth 100000 in
theorem ok_F_open : am_ok S_c M_F_open := am_ok_ofY (Y := Y_F) (cd := cd_F_open) (by decide +kernel) rfl rfl rfl oY_F (by decide +kernel)
def cd_F_fault : List (Option am_I) := [some (.aload_n 0, 1, xN), some (.getfield 95, 3, xF 0 12 0), none, none, some (.ireturn, 1, xN)]
def M_F_fault : am_Me := (⟨R_F, "fault", "()I"⟩, prog_1_method_5_code, 1, (some .int), Y_F, cd_F_fault, 0, 0, 0, 0)
set_option maxRecDepth 100000 in
theorem ok_F_fault : am_ok S_c M_F_fault := am_ok_ofY (Y := Y_F) (cd := cd_F_fault) (by decide +kernel) rfl rfl rfl oY_F (by decide +kernel)
def cd_F_count : List (Option am_I) := [some (.aload_n 0, 1, xN), some (.getfield 111, 3, xF 0 11 3), none, none, some (.ifCond .ne (5), 3, xJ 9), none, none, some (.iconst (-1), 1, xI (-1)),
  some (.ireturn, 1, xN), some (.iload_n 1, 1, xN), some (.tableswitch (86) (0) (5) #[38, 46, 54, 62, 70, 78], 38, xN), none, none, none, none, none,
  none, none, none, none, none, none, none, none,
  none, none, none, none, none, none, none, none,
  none, none, none, none, none, none, none, none,
  none, none, none, none, none, none, none, none,
  some (.aload_n 0, 1, xN), some (.getfield 18, 3, xF 0 1 2), none, none, some (.getfield 118, 3, xF 1 8 0), none, none, some (.ireturn, 1, xN),
  some (.aload_n 0, 1, xN), some (.getfield 25, 3, xF 0 2 2), none, none, some (.getfield 119, 3, xF 3 11 0), none, none, some (.ireturn, 1, xN),
  some (.aload_n 0, 1, xN), some (.getfield 25, 3, xF 0 2 2), none, none, some (.getfield 115, 3, xF 3 10 0), none, none, some (.ireturn, 1, xN),
  some (.aload_n 0, 1, xN), some (.getfield 41, 3, xF 0 4 2), none, none, some (.getfield 122, 3, xF 6 4 0), none, none, some (.ireturn, 1, xN),
  some (.aload_n 0, 1, xN), some (.getfield 57, 3, xF 0 6 2), none, none, some (.getfield 123, 3, xF 8 8 0), none, none, some (.ireturn, 1, xN),
  some (.aload_n 0, 1, xN), some (.getfield 75, 3, xF 0 8 2), none, none, some (.getfield 124, 3, xF 10 6 0), none, none, some (.ireturn, 1, xN),
  some (.iconst (-1), 1, xI (-1)), some (.ireturn, 1, xN)]
def M_F_count : am_Me := (⟨R_F, "count", "(I)I"⟩, prog_1_method_6_code, 2, (some .int), Y_F, cd_F_count, 0, 0, 0, 0)
set_option maxRecDepth 100000 in
theorem ok_F_count : am_ok S_c M_F_count := am_ok_ofY (Y := Y_F) (cd := cd_F_count) (by decide +kernel) rfl rfl rfl oY_F (by decide +kernel)
def cd_F_find : List (Option am_I) := [some (.aload_n 0, 1, xN), some (.getfield 111, 3, xF 0 11 3), none, none, some (.ifCond .ne (11), 3, xJ 15), none, none, some (.new 125, 3, xN),
  none, none, some (.dup, 1, xN), some (.invokespecial 127, 3, xN), none, none, some (.athrow, 1, xN), some (.aload_n 0, 1, xN),
  some (.getfield 84, 3, xF 0 9 2), none, none, some (.lload_n 1, 1, xN), some (.invokevirtual 128, 3, xN), none, none, some (.ireturn, 1, xN)]
def M_F_find : am_Me := (⟨R_F, "find", "(J)I"⟩, prog_1_method_7_code, 3, (some .int), Y_F, cd_F_find, 6, 148, 1, 6)
set_option maxRecDepth 100000 in
theorem ok_F_find : am_ok S_c M_F_find := am_ok_ofY (Y := Y_F) (cd := cd_F_find) (by decide +kernel) rfl rfl rfl oY_F (by decide +kernel)
def cd_F_name : List (Option am_I) := [some (.aload_n 0, 1, xN), some (.getfield 84, 3, xF 0 9 2), none, none, some (.iload_n 1, 1, xN), some (.invokevirtual 132, 3, xN), none, none,
  some (.ifCond .eq (29), 3, xJ 37), none, none, some (.aload_n 0, 1, xN), some (.aload_n 0, 1, xN), some (.getfield 84, 3, xF 0 9 2), none, none,
  some (.getfield 135, 3, xF 11 6 2), none, none, some (.iload_n 1, 1, xN), some (.iaload, 1, xN), some (.aload_n 0, 1, xN), some (.getfield 84, 3, xF 0 9 2), none,
  none, some (.getfield 139, 3, xF 11 7 2), none, none, some (.iload_n 1, 1, xN), some (.iaload, 1, xN), some (.iload_n 2, 1, xN), some (.invokevirtual 142, 3, xN),
  none, none, some (.goto (4), 3, xJ 38), none, none, some (.iconst (-1), 1, xI (-1)), some (.ireturn, 1, xN)]
def M_F_name : am_Me := (⟨R_F, "name", "(II)I"⟩, prog_1_method_8_code, 3, (some .int), Y_F, cd_F_name, 1, 23, 0, 0)
set_option maxRecDepth 100000 in
theorem ok_F_name : am_ok S_c M_F_name := am_ok_ofY (Y := Y_F) (cd := cd_F_name) (by decide +kernel) rfl rfl rfl oY_F (by decide +kernel)
def cd_F_file : List (Option am_I) := [some (.aload_n 0, 1, xN), some (.getfield 84, 3, xF 0 9 2), none, none, some (.iload_n 1, 1, xN), some (.invokevirtual 132, 3, xN), none, none,
  some (.ifCond .eq (29), 3, xJ 37), none, none, some (.aload_n 0, 1, xN), some (.aload_n 0, 1, xN), some (.getfield 84, 3, xF 0 9 2), none, none,
  some (.getfield 146, 3, xF 11 8 2), none, none, some (.iload_n 1, 1, xN), some (.iaload, 1, xN), some (.aload_n 0, 1, xN), some (.getfield 84, 3, xF 0 9 2), none,
  none, some (.getfield 149, 3, xF 11 9 2), none, none, some (.iload_n 1, 1, xN), some (.iaload, 1, xN), some (.iload_n 2, 1, xN), some (.invokevirtual 142, 3, xN),
  none, none, some (.goto (4), 3, xJ 38), none, none, some (.iconst (-1), 1, xI (-1)), some (.ireturn, 1, xN)]
def M_F_file : am_Me := (⟨R_F, "file", "(II)I"⟩, prog_1_method_9_code, 3, (some .int), Y_F, cd_F_file, 1, 23, 0, 0)
set_option maxRecDepth 100000 in
theorem ok_F_file : am_ok S_c M_F_file := am_ok_ofY (Y := Y_F) (cd := cd_F_file) (by decide +kernel) rfl rfl rfl oY_F (by decide +kernel)
def cd_F_line : List (Option am_I) := [some (.aload_n 0, 1, xN), some (.getfield 84, 3, xF 0 9 2), none, none, some (.iload_n 1, 1, xN), some (.invokevirtual 132, 3, xN), none, none,
  some (.ifCond .eq (15), 3, xJ 23), none, none, some (.aload_n 0, 1, xN), some (.getfield 84, 3, xF 0 9 2), none, none, some (.getfield 152, 3, xF 11 10 2),
  none, none, some (.iload_n 1, 1, xN), some (.iaload, 1, xN), some (.goto (4), 3, xJ 24), none, none, some (.iconst (-1), 1, xI (-1)),
  some (.ireturn, 1, xN)]
def M_F_line : am_Me := (⟨R_F, "line", "(I)I"⟩, prog_1_method_10_code, 2, (some .int), Y_F, cd_F_line, 1, 21, 0, 0)
set_option maxRecDepth 100000 in
theorem ok_F_line : am_ok S_c M_F_line := am_ok_ofY (Y := Y_F) (cd := cd_F_line) (by decide +kernel) rfl rfl rfl oY_F (by decide +kernel)
def cd_F_forget : List (Option am_I) := [some (.aload_n 0, 1, xN), some (.iconst 0, 1, xI (0)), some (.putfield 111, 3, xF 0 11 3), none, none, some (.aload_n 0, 1, xN), some (.getfield 84, 3, xF 0 9 2), none,
  none, some (.iconst 0, 1, xI (0)), some (.putfield 155, 3, xF 11 11 0), none, none, some (.return_, 1, xN)]
def M_F_forget : am_Me := (⟨R_F, "forget", "()V"⟩, prog_1_method_11_code, 1, none, Y_F, cd_F_forget, 0, 0, 0, 0)
set_option maxRecDepth 100000 in
theorem ok_F_forget : am_ok S_c M_F_forget := am_ok_ofY (Y := Y_F) (cd := cd_F_forget) (by decide +kernel) rfl rfl rfl oY_F (by decide +kernel)
def cd_F_character : List (Option am_I) := [some (.iload_n 3, 1, xN), some (.ifCond .lt (10), 3, xJ 11), none, none, some (.iload_n 3, 1, xN), some (.iload_n 2, 1, xN), some (.iload_n 1, 1, xN), some (.isub, 1, xN),
  some (.if_icmp .lt (7), 3, xJ 15), none, none, some (.iconst (-1), 1, xI (-1)), some (.goto (15), 3, xJ 27), none, none, some (.aload_n 0, 1, xN),
  some (.getfield 9, 3, xF 0 0 2), none, none, some (.iload_n 1, 1, xN), some (.iload_n 3, 1, xN), some (.iadd, 1, xN), some (.baload, 1, xJ 2), some (.sipush 255, 3, xI (255)),
  none, none, some (.iand, 1, xN), some (.ireturn, 1, xN)]
def M_F_character : am_Me := (⟨R_F, "character", "(III)I"⟩, prog_1_method_12_code, 4, (some .int), Y_F, cd_F_character, 0, 0, 0, 0)
set_option maxRecDepth 100000 in
theorem ok_F_character : am_ok S_c M_F_character := am_ok_ofY (Y := Y_F) (cd := cd_F_character) (by decide +kernel) rfl rfl rfl oY_F (by decide +kernel)
def cd_F_isBelow : List (Option am_I) := [some (.lload_n 0, 1, xN), some (.ldc2_w 156, 3, xL (-9223372036854775808)), none, none, some (.lxor, 1, xN), some (.lload_n 2, 1, xN), some (.ldc2_w 156, 3, xL (-9223372036854775808)), none,
  none, some (.lxor, 1, xN), some (.lcmp, 1, xN), some (.ifCond .ge (7), 3, xJ 18), none, none, some (.iconst 1, 1, xI (1)), some (.goto (4), 3, xJ 19),
  none, none, some (.iconst 0, 1, xI (0)), some (.ireturn, 1, xN)]
def M_F_isBelow : am_Me := (⟨R_F, "isBelow", "(JJ)Z"⟩, prog_1_method_13_code, 4, (some .boolean), Y_F, cd_F_isBelow, 0, 0, 0, 0)
set_option maxRecDepth 100000 in
theorem ok_F_isBelow : am_ok S_c M_F_isBelow := am_ok_ofY (Y := Y_F) (cd := cd_F_isBelow) (by decide +kernel) rfl rfl rfl oY_F (by decide +kernel)
def cd_F_indexOf : List (Option am_I) := [some (.iconst 0, 1, xI (0)), some (.istore_n 3, 1, xN), some (.iload_n 3, 1, xN), some (.aload_n 0, 1, xN), some (.arraylength, 1, xJ 0), some (.if_icmp .ge (20), 3, xJ 25), none, none,
  some (.aload_n 0, 1, xN), some (.iload_n 3, 1, xN), some (.iaload, 1, xN), some (.i2l, 1, xN), some (.lload_n 1, 1, xN), some (.lcmp, 1, xN), some (.ifCond .ne (5), 3, xJ 19), none,
  none, some (.iload_n 3, 1, xN), some (.ireturn, 1, xN), some (.iinc 3 (1), 3, xI (1)), none, none, some (.goto (-20), 3, xJ 2), none,
  none, some (.iconst (-1), 1, xI (-1)), some (.ireturn, 1, xN)]
def M_F_indexOf : am_Me := (⟨R_F, "indexOf", "([IJ)I"⟩, prog_1_method_14_code, 4, (some .int), Y_F, cd_F_indexOf, 0, 0, 0, 0)
set_option maxRecDepth 100000 in
theorem ok_F_indexOf : am_ok S_c M_F_indexOf := am_ok_ofY (Y := Y_F) (cd := cd_F_indexOf) (by decide +kernel) rfl rfl rfl oY_F (by decide +kernel)
def cd_Se_read : List (Option am_I) := [some (.aload_n 0, 1, xN), some (.iload_n 1, 1, xN), some (.invokevirtual 45, 3, xN), none, none, some (.ifCond .ne (5), 3, xJ 10), none, none,
  some (.iconst 0, 1, xI (0)), some (.ireturn, 1, xN), some (.iconst 0, 1, xI (0)), some (.istore_n 2, 1, xN), some (.iload_n 2, 1, xN), some (.aload_n 0, 1, xN), some (.getfield 49, 3, xF 1 8 0), none,
  none, some (.if_icmp .ge (20), 3, xJ 37), none, none, some (.aload_n 0, 1, xN), some (.iload_n 2, 1, xN), some (.iload_n 1, 1, xN), some (.invokevirtual 53, 3, xN),
  none, none, some (.ifCond .ne (5), 3, xJ 31), none, none, some (.iconst 0, 1, xI (0)), some (.ireturn, 1, xN), some (.iinc 2 (1), 3, xI (1)),
  none, none, some (.goto (-22), 3, xJ 12), none, none, some (.aload_n 0, 1, xN), some (.invokevirtual 57, 3, xN), none,
  none, some (.ireturn, 1, xN)]
def M_Se_read : am_Me := (⟨R_Se, "read", "(I)Z"⟩, prog_9_method_2_code, 3, (some .boolean), Y_Se, cd_Se_read, 4, 82, 0, 0)
set_option maxRecDepth 100000 in
theorem ok_Se_read : am_ok S_c M_Se_read := am_ok_ofY (Y := Y_Se) (cd := cd_Se_read) (by decide +kernel) rfl rfl rfl oY_Se (by decide +kernel)
def cd_Se_point : List (Option am_I) := [some (.aload_n 0, 1, xN), some (.getfield 22, 3, xF 1 5 2), none, none, some (.iload_n 2, 1, xN), some (.iaload, 1, xN), some (.istore 5, 2, xN), none,
  some (.aload_n 0, 1, xN), some (.getfield 25, 3, xF 1 6 2), none, none, some (.iload_n 2, 1, xN), some (.iaload, 1, xN), some (.istore 6, 2, xN), none,
  some (.lload_n 3, 1, xN), some (.lconst 0, 1, xL 0), some (.lcmp, 1, xN), some (.ifCond .lt (18), 3, xJ 37), none, none, some (.lload_n 3, 1, xN), some (.iload 6, 2, xN),
  none, some (.iload 5, 2, xN), none, some (.isub, 1, xN), some (.i2l, 1, xN), some (.lcmp, 1, xN), some (.ifCond .gt (7), 3, xJ 37), none,
  none, some (.iconst 1, 1, xI (1)), some (.goto (4), 3, xJ 38), none, none, some (.iconst 0, 1, xI (0)), some (.istore 7, 2, xN), none,
  some (.aload_n 1, 1, xN), some (.iload 7, 2, xN), none, some (.ifCond .eq (11), 3, xJ 54), none, none, some (.iload 5, 2, xN), none,
  some (.lload_n 3, 1, xN), some (.l2i, 1, xN), some (.iadd, 1, xN), some (.goto (5), 3, xJ 56), none, none, some (.iload 6, 2, xN), none,
  some (.putfield 61, 3, xF 2 1 0), none, none, some (.aload_n 1, 1, xN), some (.iload 6, 2, xN), none, some (.putfield 64, 3, xF 2 2 0), none,
  none, some (.aload_n 1, 1, xN), some (.iload 7, 2, xN), none, some (.ifCond .ne (7), 3, xJ 75), none, none, some (.iconst 1, 1, xI (1)),
  some (.goto (4), 3, xJ 76), none, none, some (.iconst 0, 1, xI (0)), some (.putfield 67, 3, xF 2 3 3), none, none, some (.return_, 1, xN)]
def M_Se_point : am_Me := (⟨R_Se, "point", "(LFrameFinder$Cursor;IJ)V"⟩, prog_9_method_3_code, 8, none, Y_Se, cd_Se_point, 0, 0, 0, 0)
set_option maxRecDepth 100000 in
theorem ok_Se_point : am_ok S_c M_Se_point := am_ok_ofY (Y := Y_Se) (cd := cd_Se_point) (by decide +kernel) rfl rfl rfl oY_Se (by decide +kernel)
def cd_Se_textAt : List (Option am_I) := [some (.aload_n 0, 1, xN), some (.aload_n 0, 1, xN), some (.getfield 41, 3, xF 1 1 2), none, none, some (.iload_n 1, 1, xN), some (.lload_n 2, 1, xN), some (.invokevirtual 71, 3, xN),
  none, none, some (.aload_n 0, 1, xN), some (.getfield 41, 3, xF 1 1 2), none, none, some (.invokevirtual 75, 3, xN), none,
  none, some (.istore 4, 2, xN), none, some (.aload_n 0, 1, xN), some (.getfield 41, 3, xF 1 1 2), none, none, some (.getfield 67, 3, xF 2 3 3),
  none, none, some (.ifCond .eq (7), 3, xJ 33), none, none, some (.iconst (-1), 1, xI (-1)), some (.goto (5), 3, xJ 35), none,
  none, some (.iload 4, 2, xN), none, some (.ireturn, 1, xN)]
def M_Se_textAt : am_Me := (⟨R_Se, "textAt", "(IJ)I"⟩, prog_9_method_4_code, 5, (some .int), Y_Se, cd_Se_textAt, 1, 27, 0, 0)
set_option maxRecDepth 100000 in
theorem ok_Se_textAt : am_ok S_c M_Se_textAt := am_ok_ofY (Y := Y_Se) (cd := cd_Se_textAt) (by decide +kernel) rfl rfl rfl oY_Se (by decide +kernel)
def cd_Se_readHead : List (Option am_I) := [some (.iload_n 1, 1, xN), some (.bipush 64, 2, xI (64)), none, some (.if_icmp .ge (5), 3, xJ 8), none, none, some (.iconst 0, 1, xI (0)), some (.ireturn, 1, xN),
  some (.iconst 0, 1, xI (0)), some (.istore_n 2, 1, xN), some (.iload_n 2, 1, xN), some (.getstatic 79, 3, xS 65 0), none, none, some (.arraylength, 1, xJ 0), some (.if_icmp .ge (25), 3, xJ 40),
  none, none, some (.aload_n 0, 1, xN), some (.getfield 32, 3, xF 1 0 2), none, none, some (.iload_n 2, 1, xN), some (.baload, 1, xJ 2),
  some (.getstatic 79, 3, xS 65 0), none, none, some (.iload_n 2, 1, xN), some (.iaload, 1, xN), some (.if_icmp .eq (5), 3, xJ 34), none, none,
  some (.iconst 0, 1, xI (0)), some (.ireturn, 1, xN), some (.iinc 2 (1), 3, xI (1)), none, none, some (.goto (-27), 3, xJ 10), none, none,
  some (.aload_n 0, 1, xN), some (.getfield 41, 3, xF 1 1 2), none, none, some (.bipush 40, 2, xI (40)), none, some (.iload_n 1, 1, xN), some (.invokevirtual 82, 3, xN),
  none, none, some (.aload_n 0, 1, xN), some (.getfield 41, 3, xF 1 1 2), none, none, some (.bipush 8, 2, xI (8)), none,
  some (.invokevirtual 86, 3, xN), none, none, some (.lstore_n 2, 1, xN), some (.aload_n 0, 1, xN), some (.getfield 41, 3, xF 1 1 2), none, none,
  some (.bipush 58, 2, xI (58)), none, some (.iload_n 1, 1, xN), some (.invokevirtual 82, 3, xN), none, none, some (.aload_n 0, 1, xN), some (.getfield 41, 3, xF 1 1 2),
  none, none, some (.iconst 2, 1, xI (2)), some (.invokevirtual 86, 3, xN), none, none, some (.lstore 4, 2, xN), none,
  some (.aload_n 0, 1, xN), some (.aload_n 0, 1, xN), some (.getfield 41, 3, xF 1 1 2), none, none, some (.iconst 2, 1, xI (2)), some (.invokevirtual 86, 3, xN), none,
  none, some (.l2i, 1, xN), some (.putfield 49, 3, xF 1 8 0), none, none, some (.aload_n 0, 1, xN), some (.aload_n 0, 1, xN), some (.getfield 41, 3, xF 1 1 2),
  none, none, some (.iconst 2, 1, xI (2)), some (.invokevirtual 86, 3, xN), none, none, some (.l2i, 1, xN), some (.putfield 90, 3, xF 1 10 0),
  none, none, some (.lload 4, 2, xN), none, some (.ldc2_w 93, 3, xL (64)), none, none, some (.lcmp, 1, xN),
  some (.ifCond .ne (31), 3, xJ 143), none, none, some (.aload_n 0, 1, xN), some (.getfield 49, 3, xF 1 8 0), none, none, some (.iconst 1, 1, xI (1)),
  some (.if_icmp .lt (23), 3, xJ 143), none, none, some (.aload_n 0, 1, xN), some (.getfield 49, 3, xF 1 8 0), none, none, some (.bipush 24, 2, xI (24)),
  none, some (.if_icmp .gt (14), 3, xJ 143), none, none, some (.aload_n 0, 1, xN), some (.getfield 90, 3, xF 1 10 0), none, none,
  some (.aload_n 0, 1, xN), some (.getfield 49, 3, xF 1 8 0), none, none, some (.if_icmp .lt (5), 3, xJ 145), none, none, some (.iconst 0, 1, xI (0)),
  some (.ireturn, 1, xN), some (.lload_n 2, 1, xN), some (.lconst 0, 1, xL 0), some (.lcmp, 1, xN), some (.ifCond .lt (18), 3, xJ 166), none, none, some (.lload_n 2, 1, xN),
  some (.iload_n 1, 1, xN), some (.bipush 64, 2, xI (64)), none, some (.aload_n 0, 1, xN), some (.getfield 49, 3, xF 1 8 0), none, none, some (.imul, 1, xN),
  some (.isub, 1, xN), some (.i2l, 1, xN), some (.lcmp, 1, xN), some (.ifCond .le (5), 3, xJ 168), none, none, some (.iconst 0, 1, xI (0)), some (.ireturn, 1, xN),
  some (.aload_n 0, 1, xN), some (.lload_n 2, 1, xN), some (.l2i, 1, xN), some (.putfield 95, 3, xF 1 9 0), none, none, some (.iconst 1, 1, xI (1)), some (.ireturn, 1, xN)]
def M_Se_readHead : am_Me := (⟨R_Se, "readHead", "(I)Z"⟩, prog_9_method_5_code, 6, (some .boolean), Y_Se, cd_Se_readHead, 1, 24, 0, 0)
set_option maxRecDepth 100000 in
theorem ok_Se_readHead : am_ok S_c M_Se_readHead := am_ok_ofY (Y := Y_Se) (cd := cd_Se_readHead) (by decide +kernel) rfl rfl rfl oY_Se (by decide +kernel)
def cd_Se_readHeader : List (Option am_I) := [some (.aload_n 0, 1, xN), some (.getfield 41, 3, xF 1 1 2), none, none, some (.aload_n 0, 1, xN), some (.getfield 95, 3, xF 1 9 0), none, none,
  some (.bipush 64, 2, xI (64)), none, some (.iload_n 1, 1, xN), some (.imul, 1, xN), some (.iadd, 1, xN), some (.iload_n 2, 1, xN), some (.invokevirtual 82, 3, xN), none,
  none, some (.aload_n 0, 1, xN), some (.getfield 18, 3, xF 1 4 2), none, none, some (.iload_n 1, 1, xN), some (.aload_n 0, 1, xN), some (.getfield 41, 3, xF 1 1 2),
  none, none, some (.iconst 4, 1, xI (4)), some (.invokevirtual 86, 3, xN), none, none, some (.lastore, 1, xN), some (.aload_n 0, 1, xN),
  some (.getfield 41, 3, xF 1 1 2), none, none, some (.iconst 4, 1, xI (4)), some (.invokevirtual 86, 3, xN), none, none, some (.lstore_n 3, 1, xN),
  some (.aload_n 0, 1, xN), some (.getfield 41, 3, xF 1 1 2), none, none, some (.ldc2_w 98, 3, xL (16)), none, none, some (.invokevirtual 100, 3, xN),
  none, none, some (.aload_n 0, 1, xN), some (.getfield 41, 3, xF 1 1 2), none, none, some (.bipush 8, 2, xI (8)), none,
  some (.invokevirtual 86, 3, xN), none, none, some (.lstore 5, 2, xN), none, some (.aload_n 0, 1, xN), some (.getfield 41, 3, xF 1 1 2), none,
  none, some (.bipush 8, 2, xI (8)), none, some (.invokevirtual 86, 3, xN), none, none, some (.lstore 7, 2, xN), none,
  some (.lload_n 3, 1, xN), some (.ldc2_w 104, 3, xL (8)), none, none, some (.lcmp, 1, xN), some (.ifCond .ne (19), 3, xJ 96), none, none,
  some (.aload_n 0, 1, xN), some (.getfield 9, 3, xF 1 2 2), none, none, some (.iload_n 1, 1, xN), some (.iconst 0, 1, xI (0)), some (.iastore, 1, xN), some (.aload_n 0, 1, xN),
  some (.getfield 15, 3, xF 1 3 2), none, none, some (.iload_n 1, 1, xN), some (.iconst 0, 1, xI (0)), some (.iastore, 1, xN), some (.iconst 1, 1, xI (1)), some (.ireturn, 1, xN),
  some (.lload 5, 2, xN), none, some (.lconst 0, 1, xL 0), some (.lcmp, 1, xN), some (.ifCond .lt (29), 3, xJ 129), none, none, some (.lload 5, 2, xN),
  none, some (.iload_n 2, 1, xN), some (.i2l, 1, xN), some (.lcmp, 1, xN), some (.ifCond .gt (21), 3, xJ 129), none, none, some (.lload 7, 2, xN),
  none, some (.lconst 0, 1, xL 0), some (.lcmp, 1, xN), some (.ifCond .lt (14), 3, xJ 129), none, none, some (.lload 7, 2, xN), none,
  some (.iload_n 2, 1, xN), some (.i2l, 1, xN), some (.lload 5, 2, xN), none, some (.lsub, 1, xN), some (.lcmp, 1, xN), some (.ifCond .le (5), 3, xJ 131), none,
  none, some (.iconst 0, 1, xI (0)), some (.ireturn, 1, xN), some (.aload_n 0, 1, xN), some (.getfield 9, 3, xF 1 2 2), none, none, some (.iload_n 1, 1, xN),
  some (.lload 5, 2, xN), none, some (.l2i, 1, xN), some (.iastore, 1, xN), some (.aload_n 0, 1, xN), some (.getfield 15, 3, xF 1 3 2), none, none,
  some (.iload_n 1, 1, xN), some (.lload 5, 2, xN), none, some (.lload 7, 2, xN), none, some (.ladd, 1, xN), some (.l2i, 1, xN), some (.iastore, 1, xN),
  some (.iconst 1, 1, xI (1)), some (.ireturn, 1, xN)]
def M_Se_readHeader : am_Me := (⟨R_Se, "readHeader", "(II)Z"⟩, prog_9_method_6_code, 9, (some .boolean), Y_Se, cd_Se_readHeader, 1, 24, 0, 0)
set_option maxRecDepth 100000 in
theorem ok_Se_readHeader : am_ok S_c M_Se_readHeader := am_ok_ofY (Y := Y_Se) (cd := cd_Se_readHeader) (by decide +kernel) rfl rfl rfl oY_Se (by decide +kernel)
def cd_Se_readNames : List (Option am_I) := [some (.iconst 0, 1, xI (0)), some (.istore_n 1, 1, xN), some (.iload_n 1, 1, xN), some (.bipush 10, 2, xI (10)), none, some (.if_icmp .ge (30), 3, xJ 35), none, none,
  some (.aload_n 0, 1, xN), some (.getfield 22, 3, xF 1 5 2), none, none, some (.iload_n 1, 1, xN), some (.iconst 0, 1, xI (0)), some (.iastore, 1, xN), some (.aload_n 0, 1, xN),
  some (.getfield 25, 3, xF 1 6 2), none, none, some (.iload_n 1, 1, xN), some (.iconst 0, 1, xI (0)), some (.iastore, 1, xN), some (.aload_n 0, 1, xN), some (.getfield 28, 3, xF 1 7 2),
  none, none, some (.iload_n 1, 1, xN), some (.iconst 0, 1, xI (0)), some (.bastore, 1, xJ 3), some (.iinc 1 (1), 3, xI (1)), none, none,
  some (.goto (-30), 3, xJ 2), none, none, some (.iconst 0, 1, xI (0)), some (.istore_n 1, 1, xN), some (.iload_n 1, 1, xN), some (.aload_n 0, 1, xN), some (.getfield 49, 3, xF 1 8 0),
  none, none, some (.if_icmp .ge (82), 3, xJ 124), none, none, some (.aload_n 0, 1, xN), some (.getfield 41, 3, xF 1 1 2), none,
  none, some (.aload_n 0, 1, xN), some (.getfield 9, 3, xF 1 2 2), none, none, some (.aload_n 0, 1, xN), some (.getfield 90, 3, xF 1 10 0), none,
  none, some (.iaload, 1, xN), some (.aload_n 0, 1, xN), some (.getfield 15, 3, xF 1 3 2), none, none, some (.aload_n 0, 1, xN), some (.getfield 90, 3, xF 1 10 0),
  none, none, some (.iaload, 1, xN), some (.invokevirtual 82, 3, xN), none, none, some (.aload_n 0, 1, xN), some (.getfield 41, 3, xF 1 1 2),
  none, none, some (.aload_n 0, 1, xN), some (.getfield 18, 3, xF 1 4 2), none, none, some (.iload_n 1, 1, xN), some (.laload, 1, xN),
  some (.invokevirtual 100, 3, xN), none, none, some (.aload_n 0, 1, xN), some (.getfield 41, 3, xF 1 1 2), none, none, some (.invokevirtual 75, 3, xN),
  none, none, some (.istore_n 2, 1, xN), some (.aload_n 0, 1, xN), some (.getfield 41, 3, xF 1 1 2), none, none, some (.getfield 67, 3, xF 2 3 3),
  none, none, some (.ifCond .eq (5), 3, xJ 103), none, none, some (.iconst 0, 1, xI (0)), some (.ireturn, 1, xN), some (.aload_n 0, 1, xN),
  some (.iload_n 1, 1, xN), some (.iload_n 2, 1, xN), some (.aload_n 0, 1, xN), some (.getfield 41, 3, xF 1 1 2), none, none, some (.getfield 61, 3, xF 2 1 0), none,
  none, some (.iconst 1, 1, xI (1)), some (.isub, 1, xN), some (.invokevirtual 106, 3, xN), none, none, some (.iinc 1 (1), 3, xI (1)), none,
  none, some (.goto (-84), 3, xJ 37), none, none, some (.iconst 1, 1, xI (1)), some (.ireturn, 1, xN)]
def M_Se_readNames : am_Me := (⟨R_Se, "readNames", "()Z"⟩, prog_9_method_7_code, 3, (some .boolean), Y_Se, cd_Se_readNames, 3, 60, 0, 0)
set_option maxRecDepth 100000 in
theorem ok_Se_readNames : am_ok S_c M_Se_readNames := am_ok_ofY (Y := Y_Se) (cd := cd_Se_readNames) (by decide +kernel) rfl rfl rfl oY_Se (by decide +kernel)
def cd_Se_choose : List (Option am_I) := [some (.iconst 0, 1, xI (0)), some (.istore 4, 2, xN), none, some (.iload 4, 2, xN), none, some (.bipush 10, 2, xI (10)), none, some (.if_icmp .ge (67), 3, xJ 74),
  none, none, some (.aload_n 0, 1, xN), some (.getfield 28, 3, xF 1 7 2), none, none, some (.iload 4, 2, xN), none,
  some (.baload, 1, xJ 3), some (.ifCond .ne (51), 3, xJ 68), none, none, some (.aload_n 0, 1, xN), some (.iload_n 2, 1, xN), some (.iload_n 3, 1, xN), some (.iload 4, 2, xN),
  none, some (.invokestatic 110, 3, xN), none, none, some (.invokevirtual 114, 3, xN), none, none, some (.ifCond .eq (37), 3, xJ 68),
  none, none, some (.aload_n 0, 1, xN), some (.getfield 28, 3, xF 1 7 2), none, none, some (.iload 4, 2, xN), none,
  some (.iconst 1, 1, xI (1)), some (.bastore, 1, xJ 3), some (.aload_n 0, 1, xN), some (.getfield 22, 3, xF 1 5 2), none, none, some (.iload 4, 2, xN), none,
  some (.aload_n 0, 1, xN), some (.getfield 9, 3, xF 1 2 2), none, none, some (.iload_n 1, 1, xN), some (.iaload, 1, xN), some (.iastore, 1, xN), some (.aload_n 0, 1, xN),
  some (.getfield 25, 3, xF 1 6 2), none, none, some (.iload 4, 2, xN), none, some (.aload_n 0, 1, xN), some (.getfield 15, 3, xF 1 3 2), none,
  none, some (.iload_n 1, 1, xN), some (.iaload, 1, xN), some (.iastore, 1, xN), some (.iinc 4 (1), 3, xI (1)), none, none, some (.goto (-68), 3, xJ 3),
  none, none, some (.return_, 1, xN)]
def M_Se_choose : am_Me := (⟨R_Se, "choose", "(III)V"⟩, prog_9_method_8_code, 5, none, Y_Se, cd_Se_choose, 2, 36, 0, 0)
set_option maxRecDepth 100000 in
theorem ok_Se_choose : am_ok S_c M_Se_choose := am_ok_ofY (Y := Y_Se) (cd := cd_Se_choose) (by decide +kernel) rfl rfl rfl oY_Se (by decide +kernel)
def cd_Se_isCalled : List (Option am_I) := [some (.iload_n 2, 1, xN), some (.iload_n 1, 1, xN), some (.isub, 1, xN), some (.aload_n 3, 1, xN), some (.invokevirtual 118, 3, xN), none, none, some (.if_icmp .eq (5), 3, xJ 12),
  none, none, some (.iconst 0, 1, xI (0)), some (.ireturn, 1, xN), some (.iconst 0, 1, xI (0)), some (.istore 4, 2, xN), none, some (.iload 4, 2, xN),
  none, some (.aload_n 3, 1, xN), some (.invokevirtual 118, 3, xN), none, none, some (.if_icmp .ge (29), 3, xJ 50), none, none,
  some (.aload_n 0, 1, xN), some (.getfield 32, 3, xF 1 0 2), none, none, some (.iload_n 1, 1, xN), some (.iload 4, 2, xN), none, some (.iadd, 1, xN),
  some (.baload, 1, xJ 2), some (.aload_n 3, 1, xN), some (.iload 4, 2, xN), none, some (.invokevirtual 123, 3, xN), none, none, some (.if_icmp .eq (5), 3, xJ 44),
  none, none, some (.iconst 0, 1, xI (0)), some (.ireturn, 1, xN), some (.iinc 4 (1), 3, xI (1)), none, none, some (.goto (-32), 3, xJ 15),
  none, none, some (.iconst 1, 1, xI (1)), some (.ireturn, 1, xN)]
def M_Se_isCalled : am_Me := (⟨R_Se, "isCalled", "(IILjava/lang/String;)Z"⟩, prog_9_method_9_code, 5, (some .boolean), Y_Se, cd_Se_isCalled, 1, 12, 0, 0)
set_option maxRecDepth 100000 in
theorem ok_Se_isCalled : am_ok S_c M_Se_isCalled := am_ok_ofY (Y := Y_Se) (cd := cd_Se_isCalled) (by decide +kernel) rfl rfl rfl oY_Se (by decide +kernel)
def cd_Cu_set : List (Option am_I) := [some (.aload_n 0, 1, xN), some (.iload_n 1, 1, xN), some (.putfield 15, 3, xF 2 1 0), none, none, some (.aload_n 0, 1, xN), some (.iload_n 2, 1, xN), some (.putfield 19, 3, xF 2 2 0),
  none, none, some (.aload_n 0, 1, xN), some (.iconst 0, 1, xI (0)), some (.putfield 22, 3, xF 2 3 3), none, none, some (.return_, 1, xN)]
def M_Cu_set : am_Me := (⟨R_Cu, "set", "(II)V"⟩, prog_3_method_2_code, 3, none, Y_Cu, cd_Cu_set, 0, 0, 0, 0)
set_option maxRecDepth 100000 in
theorem ok_Cu_set : am_ok S_c M_Cu_set := am_ok_ofY (Y := Y_Cu) (cd := cd_Cu_set) (by decide +kernel) rfl rfl rfl oY_Cu (by decide +kernel)
def cd_Cu_number : List (Option am_I) := [some (.aload_n 0, 1, xN), some (.getfield 22, 3, xF 2 3 3), none, none, some (.ifCond .ne (16), 3, xJ 20), none, none, some (.aload_n 0, 1, xN),
  some (.getfield 19, 3, xF 2 2 0), none, none, some (.aload_n 0, 1, xN), some (.getfield 15, 3, xF 2 1 0), none, none, some (.isub, 1, xN),
  some (.iload_n 1, 1, xN), some (.if_icmp .ge (10), 3, xJ 27), none, none, some (.aload_n 0, 1, xN), some (.iconst 1, 1, xI (1)), some (.putfield 22, 3, xF 2 3 3), none,
  none, some (.lconst 0, 1, xL 0), some (.lreturn, 1, xN), some (.lconst 0, 1, xL 0), some (.lstore_n 2, 1, xN), some (.iload_n 1, 1, xN), some (.iconst 1, 1, xI (1)), some (.isub, 1, xN),
  some (.istore 4, 2, xN), none, some (.iload 4, 2, xN), none, some (.ifCond .lt (32), 3, xJ 68), none, none, some (.lload_n 2, 1, xN),
  some (.bipush 8, 2, xI (8)), none, some (.lshl, 1, xN), some (.aload_n 0, 1, xN), some (.getfield 9, 3, xF 2 0 2), none, none, some (.aload_n 0, 1, xN),
  some (.getfield 15, 3, xF 2 1 0), none, none, some (.iload 4, 2, xN), none, some (.iadd, 1, xN), some (.baload, 1, xJ 2), some (.sipush 255, 3, xI (255)),
  none, none, some (.iand, 1, xN), some (.i2l, 1, xN), some (.lor, 1, xN), some (.lstore_n 2, 1, xN), some (.iinc 4 (-1), 3, xI (-1)), none,
  none, some (.goto (-31), 3, xJ 34), none, none, some (.aload_n 0, 1, xN), some (.dup, 1, xN), some (.getfield 15, 3, xF 2 1 0), none,
  none, some (.iload_n 1, 1, xN), some (.iadd, 1, xN), some (.putfield 15, 3, xF 2 1 0), none, none, some (.lload_n 2, 1, xN), some (.lreturn, 1, xN)]
def M_Cu_number : am_Me := (⟨R_Cu, "number", "(I)J"⟩, prog_3_method_3_code, 5, (some .long), Y_Cu, cd_Cu_number, 0, 0, 0, 0)
set_option maxRecDepth 100000 in
theorem ok_Cu_number : am_ok S_c M_Cu_number := am_ok_ofY (Y := Y_Cu) (cd := cd_Cu_number) (by decide +kernel) rfl rfl rfl oY_Cu (by decide +kernel)
def cd_Cu_uleb : List (Option am_I) := [some (.aload_n 0, 1, xN), some (.iconst 0, 1, xI (0)), some (.invokevirtual 26, 3, xN), none, none, some (.lreturn, 1, xN)]
def M_Cu_uleb : am_Me := (⟨R_Cu, "uleb", "()J"⟩, prog_3_method_4_code, 1, (some .long), Y_Cu, cd_Cu_uleb, 1, 26, 0, 0)
set_option maxRecDepth 100000 in
theorem ok_Cu_uleb : am_ok S_c M_Cu_uleb := am_ok_ofY (Y := Y_Cu) (cd := cd_Cu_uleb) (by decide +kernel) rfl rfl rfl oY_Cu (by decide +kernel)
def cd_Cu_sleb : List (Option am_I) := [some (.aload_n 0, 1, xN), some (.iconst 1, 1, xI (1)), some (.invokevirtual 26, 3, xN), none, none, some (.lreturn, 1, xN)]
def M_Cu_sleb : am_Me := (⟨R_Cu, "sleb", "()J"⟩, prog_3_method_5_code, 1, (some .long), Y_Cu, cd_Cu_sleb, 1, 26, 0, 0)
set_option maxRecDepth 100000 in
theorem ok_Cu_sleb : am_ok S_c M_Cu_sleb := am_ok_ofY (Y := Y_Cu) (cd := cd_Cu_sleb) (by decide +kernel) rfl rfl rfl oY_Cu (by decide +kernel)
def cd_Cu_leb : List (Option am_I) := [some (.lconst 0, 1, xL 0), some (.lstore_n 2, 1, xN), some (.iconst 0, 1, xI (0)), some (.istore 4, 2, xN), none, some (.iload 4, 2, xN), none, some (.bipush 10, 2, xI (10)),
  none, some (.if_icmp .ge (126), 3, xJ 135), none, none, some (.aload_n 0, 1, xN), some (.getfield 22, 3, xF 2 3 3), none, none,
  some (.ifCond .ne (119), 3, xJ 135), none, none, some (.aload_n 0, 1, xN), some (.getfield 15, 3, xF 2 1 0), none, none, some (.aload_n 0, 1, xN),
  some (.getfield 19, 3, xF 2 2 0), none, none, some (.if_icmp .ge (108), 3, xJ 135), none, none, some (.aload_n 0, 1, xN), some (.getfield 9, 3, xF 2 0 2),
  none, none, some (.aload_n 0, 1, xN), some (.getfield 15, 3, xF 2 1 0), none, none, some (.baload, 1, xJ 2), some (.sipush 255, 3, xI (255)),
  none, none, some (.iand, 1, xN), some (.istore 5, 2, xN), none, some (.aload_n 0, 1, xN), some (.dup, 1, xN), some (.getfield 15, 3, xF 2 1 0),
  none, none, some (.iconst 1, 1, xI (1)), some (.iadd, 1, xN), some (.putfield 15, 3, xF 2 1 0), none, none, some (.lload_n 2, 1, xN),
  some (.iload 5, 2, xN), none, some (.bipush 127, 2, xI (127)), none, some (.iand, 1, xN), some (.i2l, 1, xN), some (.bipush 7, 2, xI (7)), none,
  some (.iload 4, 2, xN), none, some (.imul, 1, xN), some (.lshl, 1, xN), some (.lor, 1, xN), some (.lstore_n 2, 1, xN), some (.iload 5, 2, xN), none,
  some (.sipush 128, 3, xI (128)), none, none, some (.if_icmp .ge (54), 3, xJ 129), none, none, some (.iload_n 1, 1, xN), some (.ifCond .eq (24), 3, xJ 103),
  none, none, some (.iload 5, 2, xN), none, some (.bipush 64, 2, xI (64)), none, some (.iand, 1, xN), some (.ifCond .eq (16), 3, xJ 103),
  none, none, some (.iload 4, 2, xN), none, some (.iconst 1, 1, xI (1)), some (.iadd, 1, xN), some (.bipush 10, 2, xI (10)), none,
  some (.if_icmp .ge (7), 3, xJ 103), none, none, some (.iconst 1, 1, xI (1)), some (.goto (4), 3, xJ 104), none, none, some (.iconst 0, 1, xI (0)),
  some (.istore 6, 2, xN), none, some (.iload 6, 2, xN), none, some (.ifCond .eq (19), 3, xJ 127), none, none, some (.lload_n 2, 1, xN),
  some (.ldc2_w 30, 3, xL (-1)), none, none, some (.bipush 7, 2, xI (7)), none, some (.iload 4, 2, xN), none, some (.iconst 1, 1, xI (1)),
  some (.iadd, 1, xN), some (.imul, 1, xN), some (.lshl, 1, xN), some (.lor, 1, xN), some (.goto (4), 3, xJ 128), none, none, some (.lload_n 2, 1, xN),
  some (.lreturn, 1, xN), some (.iinc 4 (1), 3, xI (1)), none, none, some (.goto (-127), 3, xJ 5), none, none, some (.aload_n 0, 1, xN),
  some (.iconst 1, 1, xI (1)), some (.putfield 22, 3, xF 2 3 3), none, none, some (.lconst 0, 1, xL 0), some (.lreturn, 1, xN)]
def M_Cu_leb : am_Me := (⟨R_Cu, "leb", "(Z)J"⟩, prog_3_method_6_code, 7, (some .long), Y_Cu, cd_Cu_leb, 0, 0, 0, 0)
set_option maxRecDepth 100000 in
theorem ok_Cu_leb : am_ok S_c M_Cu_leb := am_ok_ofY (Y := Y_Cu) (cd := cd_Cu_leb) (by decide +kernel) rfl rfl rfl oY_Cu (by decide +kernel)
def cd_Cu_text : List (Option am_I) := [some (.aload_n 0, 1, xN), some (.getfield 15, 3, xF 2 1 0), none, none, some (.istore_n 1, 1, xN), some (.aload_n 0, 1, xN), some (.getfield 15, 3, xF 2 1 0), none,
  none, some (.istore_n 2, 1, xN), some (.iload_n 2, 1, xN), some (.aload_n 0, 1, xN), some (.getfield 19, 3, xF 2 2 0), none, none, some (.if_icmp .ge (34), 3, xJ 49),
  none, none, some (.aload_n 0, 1, xN), some (.getfield 22, 3, xF 2 3 3), none, none, some (.ifCond .ne (27), 3, xJ 49), none,
  none, some (.aload_n 0, 1, xN), some (.getfield 9, 3, xF 2 0 2), none, none, some (.iload_n 2, 1, xN), some (.baload, 1, xJ 2), some (.ifCond .ne (12), 3, xJ 43),
  none, none, some (.aload_n 0, 1, xN), some (.iload_n 2, 1, xN), some (.iconst 1, 1, xI (1)), some (.iadd, 1, xN), some (.putfield 15, 3, xF 2 1 0), none,
  none, some (.iload_n 1, 1, xN), some (.ireturn, 1, xN), some (.iinc 2 (1), 3, xI (1)), none, none, some (.goto (-36), 3, xJ 10), none,
  none, some (.aload_n 0, 1, xN), some (.iconst 1, 1, xI (1)), some (.putfield 22, 3, xF 2 3 3), none, none, some (.iload_n 1, 1, xN), some (.ireturn, 1, xN)]
def M_Cu_text : am_Me := (⟨R_Cu, "text", "()I"⟩, prog_3_method_7_code, 3, (some .int), Y_Cu, cd_Cu_text, 0, 0, 0, 0)
set_option maxRecDepth 100000 in
theorem ok_Cu_text : am_ok S_c M_Cu_text := am_ok_ofY (Y := Y_Cu) (cd := cd_Cu_text) (by decide +kernel) rfl rfl rfl oY_Cu (by decide +kernel)
def cd_Cu_skip : List (Option am_I) := [some (.aload_n 0, 1, xN), some (.getfield 22, 3, xF 2 3 3), none, none, some (.ifCond .ne (24), 3, xJ 28), none, none, some (.lload_n 1, 1, xN),
  some (.lconst 0, 1, xL 0), some (.lcmp, 1, xN), some (.ifCond .lt (18), 3, xJ 28), none, none, some (.lload_n 1, 1, xN), some (.aload_n 0, 1, xN), some (.getfield 19, 3, xF 2 2 0),
  none, none, some (.aload_n 0, 1, xN), some (.getfield 15, 3, xF 2 1 0), none, none, some (.isub, 1, xN), some (.i2l, 1, xN),
  some (.lcmp, 1, xN), some (.ifCond .le (11), 3, xJ 36), none, none, some (.aload_n 0, 1, xN), some (.iconst 1, 1, xI (1)), some (.putfield 22, 3, xF 2 3 3), none,
  none, some (.goto (14), 3, xJ 47), none, none, some (.aload_n 0, 1, xN), some (.dup, 1, xN), some (.getfield 15, 3, xF 2 1 0), none,
  none, some (.lload_n 1, 1, xN), some (.l2i, 1, xN), some (.iadd, 1, xN), some (.putfield 15, 3, xF 2 1 0), none, none, some (.return_, 1, xN)]
def M_Cu_skip : am_Me := (⟨R_Cu, "skip", "(J)V"⟩, prog_3_method_8_code, 3, none, Y_Cu, cd_Cu_skip, 0, 0, 0, 0)
set_option maxRecDepth 100000 in
theorem ok_Cu_skip : am_ok S_c M_Cu_skip := am_ok_ofY (Y := Y_Cu) (cd := cd_Cu_skip) (by decide +kernel) rfl rfl rfl oY_Cu (by decide +kernel)
def cd_En_forgetAll : List (Option am_I) := [some (.aload_n 0, 1, xN), some (.iconst 0, 1, xI (0)), some (.putfield 43, 3, xF 3 10 0), none, none, some (.aload_n 0, 1, xN), some (.iconst 0, 1, xI (0)), some (.putfield 47, 3, xF 3 11 0),
  none, none, some (.return_, 1, xN)]
def M_En_forgetAll : am_Me := (⟨R_En, "forgetAll", "()V"⟩, prog_4_method_2_code, 1, none, Y_En, cd_En_forgetAll, 0, 0, 0, 0)
set_option maxRecDepth 100000 in
theorem ok_En_forgetAll : am_ok S_c M_En_forgetAll := am_ok_ofY (Y := Y_En) (cd := cd_En_forgetAll) (by decide +kernel) rfl rfl rfl oY_En (by decide +kernel)
def cd_En_addUnit : List (Option am_I) := [some (.aload_n 0, 1, xN), some (.getfield 31, 3, xF 3 6 2), none, none, some (.aload_n 0, 1, xN), some (.getfield 47, 3, xF 3 11 0), none, none,
  some (.iload_n 1, 1, xN), some (.iastore, 1, xN), some (.aload_n 0, 1, xN), some (.getfield 34, 3, xF 3 7 2), none, none, some (.aload_n 0, 1, xN), some (.getfield 47, 3, xF 3 11 0),
  none, none, some (.aload_n 0, 1, xN), some (.getfield 43, 3, xF 3 10 0), none, none, some (.iastore, 1, xN), some (.iconst 0, 1, xI (0)),
  some (.istore_n 2, 1, xN), some (.iload_n 2, 1, xN), some (.iconst 4, 1, xI (4)), some (.if_icmp .ge (37), 3, xJ 64), none, none, some (.aload_n 0, 1, xN), some (.getfield 37, 3, xF 3 8 2),
  none, none, some (.aload_n 0, 1, xN), some (.getfield 47, 3, xF 3 11 0), none, none, some (.iconst 4, 1, xI (4)), some (.imul, 1, xN),
  some (.iload_n 2, 1, xN), some (.iadd, 1, xN), some (.iconst 0, 1, xI (0)), some (.iastore, 1, xN), some (.aload_n 0, 1, xN), some (.getfield 40, 3, xF 3 9 2), none, none,
  some (.aload_n 0, 1, xN), some (.getfield 47, 3, xF 3 11 0), none, none, some (.iconst 4, 1, xI (4)), some (.imul, 1, xN), some (.iload_n 2, 1, xN), some (.iadd, 1, xN),
  some (.lconst 0, 1, xL 0), some (.lastore, 1, xN), some (.iinc 2 (1), 3, xI (1)), none, none, some (.goto (-36), 3, xJ 25), none, none,
  some (.aload_n 0, 1, xN), some (.dup, 1, xN), some (.getfield 47, 3, xF 3 11 0), none, none, some (.iconst 1, 1, xI (1)), some (.iadd, 1, xN), some (.putfield 47, 3, xF 3 11 0),
  none, none, some (.return_, 1, xN)]
def M_En_addUnit : am_Me := (⟨R_En, "addUnit", "(I)V"⟩, prog_4_method_3_code, 3, none, Y_En, cd_En_addUnit, 0, 0, 0, 0)
set_option maxRecDepth 100000 in
theorem ok_En_addUnit : am_ok S_c M_En_addUnit := am_ok_ofY (Y := Y_En) (cd := cd_En_addUnit) (by decide +kernel) rfl rfl rfl oY_En (by decide +kernel)
def cd_En_add : List (Option am_I) := [some (.aload_n 0, 1, xN), some (.getfield 9, 3, xF 3 0 2), none, none, some (.aload_n 0, 1, xN), some (.getfield 43, 3, xF 3 10 0), none, none,
  some (.lload_n 1, 1, xN), some (.lastore, 1, xN), some (.aload_n 0, 1, xN), some (.getfield 15, 3, xF 3 1 2), none, none, some (.aload_n 0, 1, xN), some (.getfield 43, 3, xF 3 10 0),
  none, none, some (.iload_n 3, 1, xN), some (.iastore, 1, xN), some (.aload_n 0, 1, xN), some (.getfield 19, 3, xF 3 2 2), none, none,
  some (.aload_n 0, 1, xN), some (.getfield 43, 3, xF 3 10 0), none, none, some (.aload_n 0, 1, xN), some (.getfield 47, 3, xF 3 11 0), none, none,
  some (.iconst 1, 1, xI (1)), some (.isub, 1, xN), some (.iastore, 1, xN), some (.aload_n 0, 1, xN), some (.getfield 22, 3, xF 3 3 2), none, none, some (.aload_n 0, 1, xN),
  some (.getfield 43, 3, xF 3 10 0), none, none, some (.iload 4, 2, xN), none, some (.iastore, 1, xN), some (.iconst 0, 1, xI (0)), some (.istore 5, 2, xN),
  none, some (.iload 5, 2, xN), none, some (.bipush 7, 2, xI (7)), none, some (.if_icmp .ge (25), 3, xJ 78), none, none,
  some (.aload_n 0, 1, xN), some (.getfield 25, 3, xF 3 4 2), none, none, some (.aload_n 0, 1, xN), some (.getfield 43, 3, xF 3 10 0), none, none,
  some (.bipush 7, 2, xI (7)), none, some (.imul, 1, xN), some (.iload 5, 2, xN), none, some (.iadd, 1, xN), some (.iconst 0, 1, xI (0)), some (.iastore, 1, xN),
  some (.iinc 5 (1), 3, xI (1)), none, none, some (.goto (-26), 3, xJ 49), none, none, some (.aload_n 0, 1, xN), some (.dup, 1, xN),
  some (.getfield 43, 3, xF 3 10 0), none, none, some (.iconst 1, 1, xI (1)), some (.iadd, 1, xN), some (.putfield 43, 3, xF 3 10 0), none, none,
  some (.return_, 1, xN)]
def M_En_add : am_Me := (⟨R_En, "add", "(JII)V"⟩, prog_4_method_4_code, 6, none, Y_En, cd_En_add, 0, 0, 0, 0)
set_option maxRecDepth 100000 in
theorem ok_En_add : am_ok S_c M_En_add := am_ok_ofY (Y := Y_En) (cd := cd_En_add) (by decide +kernel) rfl rfl rfl oY_En (by decide +kernel)
def cd_En_keep : List (Option am_I) := [some (.aload_n 0, 1, xN), some (.getfield 43, 3, xF 3 10 0), none, none, some (.iconst 1, 1, xI (1)), some (.isub, 1, xN), some (.istore 6, 2, xN), none,
  some (.getstatic 50, 3, xS 66 1), none, none, some (.lload_n 1, 1, xN), some (.invokestatic 53, 3, xN), none, none, some (.istore 7, 2, xN),
  none, some (.getstatic 57, 3, xS 67 2), none, none, some (.lload_n 1, 1, xN), some (.invokestatic 53, 3, xN), none, none,
  some (.istore 8, 2, xN), none, some (.iload 7, 2, xN), none, some (.iconst (-1), 1, xI (-1)), some (.if_icmp .eq (34), 3, xJ 63), none, none,
  some (.aload_n 0, 1, xN), some (.iload 6, 2, xN), none, some (.invokevirtual 60, 3, xN), none, none, some (.ifCond .eq (25), 3, xJ 63), none,
  none, some (.aload_n 0, 1, xN), some (.getfield 25, 3, xF 3 4 2), none, none, some (.aload_n 0, 1, xN), some (.getfield 28, 3, xF 3 5 2), none,
  none, some (.iload 6, 2, xN), none, some (.bipush 7, 2, xI (7)), none, some (.imul, 1, xN), some (.iload 7, 2, xN), none,
  some (.iadd, 1, xN), some (.iload_n 3, 1, xN), some (.lload 4, 2, xN), none, some (.invokestatic 64, 3, xN), none, none, some (.iload 8, 2, xN),
  none, some (.iconst (-1), 1, xI (-1)), some (.if_icmp .eq (43), 3, xJ 109), none, none, some (.aload_n 0, 1, xN), some (.getfield 9, 3, xF 3 0 2), none,
  none, some (.iload 6, 2, xN), none, some (.laload, 1, xN), some (.ldc2_w 68, 3, xL (17)), none, none, some (.lcmp, 1, xN),
  some (.ifCond .ne (29), 3, xJ 109), none, none, some (.aload_n 0, 1, xN), some (.getfield 37, 3, xF 3 8 2), none, none, some (.aload_n 0, 1, xN),
  some (.getfield 40, 3, xF 3 9 2), none, none, some (.aload_n 0, 1, xN), some (.getfield 19, 3, xF 3 2 2), none, none, some (.iload 6, 2, xN),
  none, some (.iaload, 1, xN), some (.iconst 4, 1, xI (4)), some (.imul, 1, xN), some (.iload 8, 2, xN), none, some (.iadd, 1, xN), some (.iload_n 3, 1, xN),
  some (.lload 4, 2, xN), none, some (.invokestatic 64, 3, xN), none, none, some (.return_, 1, xN)]
def M_En_keep : am_Me := (⟨R_En, "keep", "(JIJ)V"⟩, prog_4_method_5_code, 9, none, Y_En, cd_En_keep, 1, 25, 0, 0)
set_option maxRecDepth 100000 in
theorem ok_En_keep : am_ok S_c M_En_keep := am_ok_ofY (Y := Y_En) (cd := cd_En_keep) (by decide +kernel) rfl rfl rfl oY_En (by decide +kernel)
def cd_En_isLookedAt : List (Option am_I) := [some (.aload_n 0, 1, xN), some (.getfield 9, 3, xF 3 0 2), none, none, some (.iload_n 1, 1, xN), some (.laload, 1, xN), some (.ldc2_w 68, 3, xL (17)), none,
  none, some (.lcmp, 1, xN), some (.ifCond .eq (42), 3, xJ 52), none, none, some (.aload_n 0, 1, xN), some (.getfield 9, 3, xF 3 0 2), none,
  none, some (.iload_n 1, 1, xN), some (.laload, 1, xN), some (.ldc2_w 70, 3, xL (46)), none, none, some (.lcmp, 1, xN), some (.ifCond .eq (29), 3, xJ 52),
  none, none, some (.aload_n 0, 1, xN), some (.getfield 9, 3, xF 3 0 2), none, none, some (.iload_n 1, 1, xN), some (.laload, 1, xN),
  some (.ldc2_w 72, 3, xL (29)), none, none, some (.lcmp, 1, xN), some (.ifCond .eq (16), 3, xJ 52), none, none, some (.aload_n 0, 1, xN),
  some (.getfield 9, 3, xF 3 0 2), none, none, some (.iload_n 1, 1, xN), some (.laload, 1, xN), some (.ldc2_w 74, 3, xL (11)), none, none,
  some (.lcmp, 1, xN), some (.ifCond .ne (7), 3, xJ 56), none, none, some (.iconst 1, 1, xI (1)), some (.goto (4), 3, xJ 57), none, none,
  some (.iconst 0, 1, xI (0)), some (.ireturn, 1, xN)]
def M_En_isLookedAt : am_Me := (⟨R_En, "isLookedAt", "(I)Z"⟩, prog_4_method_6_code, 2, (some .boolean), Y_En, cd_En_isLookedAt, 0, 0, 0, 0)
set_option maxRecDepth 100000 in
theorem ok_En_isLookedAt : am_ok S_c M_En_isLookedAt := am_ok_ofY (Y := Y_En) (cd := cd_En_isLookedAt) (by decide +kernel) rfl rfl rfl oY_En (by decide +kernel)
def cd_En_has : List (Option am_I) := [some (.aload_n 0, 1, xN), some (.getfield 25, 3, xF 3 4 2), none, none, some (.iload_n 1, 1, xN), some (.bipush 7, 2, xI (7)), none, some (.imul, 1, xN),
  some (.iload_n 2, 1, xN), some (.iadd, 1, xN), some (.iaload, 1, xN), some (.ifCond .eq (7), 3, xJ 18), none, none, some (.iconst 1, 1, xI (1)), some (.goto (4), 3, xJ 19),
  none, none, some (.iconst 0, 1, xI (0)), some (.ireturn, 1, xN)]
def M_En_has : am_Me := (⟨R_En, "has", "(II)Z"⟩, prog_4_method_7_code, 3, (some .boolean), Y_En, cd_En_has, 0, 0, 0, 0)
set_option maxRecDepth 100000 in
theorem ok_En_has : am_ok S_c M_En_has := am_ok_ofY (Y := Y_En) (cd := cd_En_has) (by decide +kernel) rfl rfl rfl oY_En (by decide +kernel)
def cd_En_valueOf : List (Option am_I) := [some (.aload_n 0, 1, xN), some (.getfield 28, 3, xF 3 5 2), none, none, some (.iload_n 1, 1, xN), some (.bipush 7, 2, xI (7)), none, some (.imul, 1, xN),
  some (.iload_n 2, 1, xN), some (.iadd, 1, xN), some (.laload, 1, xN), some (.lreturn, 1, xN)]
def M_En_valueOf : am_Me := (⟨R_En, "valueOf", "(II)J"⟩, prog_4_method_8_code, 3, (some .long), Y_En, cd_En_valueOf, 0, 0, 0, 0)
set_option maxRecDepth 100000 in
theorem ok_En_valueOf : am_ok S_c M_En_valueOf := am_ok_ofY (Y := Y_En) (cd := cd_En_valueOf) (by decide +kernel) rfl rfl rfl oY_En (by decide +kernel)
def cd_En_hasPlaces : List (Option am_I) := [some (.aload_n 0, 1, xN), some (.iload_n 1, 1, xN), some (.iconst 3, 1, xI (3)), some (.invokevirtual 76, 3, xN), none, none, some (.ifCond .ne (21), 3, xJ 27), none,
  none, some (.aload_n 0, 1, xN), some (.iload_n 1, 1, xN), some (.iconst 1, 1, xI (1)), some (.invokevirtual 76, 3, xN), none, none, some (.ifCond .eq (16), 3, xJ 31),
  none, none, some (.aload_n 0, 1, xN), some (.iload_n 1, 1, xN), some (.iconst 2, 1, xI (2)), some (.invokevirtual 76, 3, xN), none, none,
  some (.ifCond .eq (7), 3, xJ 31), none, none, some (.iconst 1, 1, xI (1)), some (.goto (4), 3, xJ 32), none, none, some (.iconst 0, 1, xI (0)),
  some (.ireturn, 1, xN)]
def M_En_hasPlaces : am_Me := (⟨R_En, "hasPlaces", "(I)Z"⟩, prog_4_method_9_code, 2, (some .boolean), Y_En, cd_En_hasPlaces, 1, 22, 0, 0)
set_option maxRecDepth 100000 in
theorem ok_En_hasPlaces : am_ok S_c M_En_hasPlaces := am_ok_ofY (Y := Y_En) (cd := cd_En_hasPlaces) (by decide +kernel) rfl rfl rfl oY_En (by decide +kernel)
def cd_En_keepFirst : List (Option am_I) := [some (.aload_n 0, 1, xN), some (.iload_n 2, 1, xN), some (.iaload, 1, xN), some (.ifCond .ne (12), 3, xJ 15), none, none, some (.aload_n 0, 1, xN), some (.iload_n 2, 1, xN),
  some (.iload_n 3, 1, xN), some (.iastore, 1, xN), some (.aload_n 1, 1, xN), some (.iload_n 2, 1, xN), some (.lload 4, 2, xN), none, some (.lastore, 1, xN), some (.return_, 1, xN)]
def M_En_keepFirst : am_Me := (⟨R_En, "keepFirst", "([I[JIIJ)V"⟩, prog_4_method_10_code, 6, none, Y_En, cd_En_keepFirst, 0, 0, 0, 0)
set_option maxRecDepth 100000 in
theorem ok_En_keepFirst : am_ok S_c M_En_keepFirst := am_ok_ofY (Y := Y_En) (cd := cd_En_keepFirst) (by decide +kernel) rfl rfl rfl oY_En (by decide +kernel)
def cd_Ur_read : List (Option am_I) := [some (.aload_n 0, 1, xN), some (.getfield 15, 3, xF 4 1 2), none, none, some (.invokevirtual 38, 3, xN), none, none, some (.aload_n 0, 1, xN),
  some (.getfield 9, 3, xF 4 0 2), none, none, some (.aload_n 0, 1, xN), some (.getfield 31, 3, xF 4 3 2), none, none, some (.iconst 1, 1, xI (1)),
  some (.lconst 0, 1, xL 0), some (.invokevirtual 43, 3, xN), none, none, some (.aload_n 0, 1, xN), some (.getfield 31, 3, xF 4 3 2), none, none,
  some (.getfield 49, 3, xF 2 2 0), none, none, some (.istore_n 1, 1, xN), some (.iconst 0, 1, xI (0)), some (.istore_n 2, 1, xN), some (.iload_n 2, 1, xN), some (.iconst 4, 1, xI (4)),
  some (.if_icmp .gt (49), 3, xJ 81), none, none, some (.aload_n 0, 1, xN), some (.getfield 31, 3, xF 4 3 2), none, none, some (.getfield 53, 3, xF 2 1 0),
  none, none, some (.iload_n 1, 1, xN), some (.if_icmp .ge (38), 3, xJ 81), none, none, some (.iload_n 2, 1, xN), some (.iconst 4, 1, xI (4)),
  some (.if_icmp .eq (17), 3, xJ 65), none, none, some (.aload_n 0, 1, xN), some (.invokevirtual 56, 3, xN), none, none, some (.ifCond .eq (10), 3, xJ 65),
  none, none, some (.aload_n 0, 1, xN), some (.invokevirtual 60, 3, xN), none, none, some (.ifCond .ne (5), 3, xJ 67), none,
  none, some (.iconst 0, 1, xI (0)), some (.ireturn, 1, xN), some (.aload_n 0, 1, xN), some (.getfield 31, 3, xF 4 3 2), none, none, some (.iload_n 1, 1, xN),
  some (.putfield 49, 3, xF 2 2 0), none, none, some (.iinc 2 (1), 3, xI (1)), none, none, some (.goto (-48), 3, xJ 30), none,
  none, some (.iconst 1, 1, xI (1)), some (.ireturn, 1, xN)]
def M_Ur_read : am_Me := (⟨R_Ur, "read", "()Z"⟩, prog_11_method_2_code, 3, (some .boolean), Y_Ur, cd_Ur_read, 5, 124, 0, 0)
set_option maxRecDepth 100000 in
theorem ok_Ur_read : am_ok S_c M_Ur_read := am_ok_ofY (Y := Y_Ur) (cd := cd_Ur_read) (by decide +kernel) rfl rfl rfl oY_Ur (by decide +kernel)
def cd_Ur_readHead : List (Option am_I) := [some (.aload_n 0, 1, xN), some (.getfield 31, 3, xF 4 3 2), none, none, some (.getfield 53, 3, xF 2 1 0), none, none, some (.istore_n 1, 1, xN),
  some (.aload_n 0, 1, xN), some (.getfield 31, 3, xF 4 3 2), none, none, some (.iconst 4, 1, xI (4)), some (.invokevirtual 63, 3, xN), none, none,
  some (.lstore_n 2, 1, xN), some (.aload_n 0, 1, xN), some (.getfield 31, 3, xF 4 3 2), none, none, some (.getfield 67, 3, xF 2 3 3), none, none,
  some (.ifCond .ne (24), 3, xJ 48), none, none, some (.lload_n 2, 1, xN), some (.aload_n 0, 1, xN), some (.getfield 31, 3, xF 4 3 2), none, none,
  some (.getfield 49, 3, xF 2 2 0), none, none, some (.aload_n 0, 1, xN), some (.getfield 31, 3, xF 4 3 2), none, none, some (.getfield 53, 3, xF 2 1 0),
  none, none, some (.isub, 1, xN), some (.i2l, 1, xN), some (.lcmp, 1, xN), some (.ifCond .le (5), 3, xJ 50), none, none,
  some (.iconst 0, 1, xI (0)), some (.ireturn, 1, xN), some (.aload_n 0, 1, xN), some (.getfield 31, 3, xF 4 3 2), none, none, some (.aload_n 0, 1, xN), some (.getfield 31, 3, xF 4 3 2),
  none, none, some (.getfield 53, 3, xF 2 1 0), none, none, some (.lload_n 2, 1, xN), some (.l2i, 1, xN), some (.iadd, 1, xN),
  some (.putfield 49, 3, xF 2 2 0), none, none, some (.aload_n 0, 1, xN), some (.getfield 31, 3, xF 4 3 2), none, none, some (.iconst 2, 1, xI (2)),
  some (.invokevirtual 63, 3, xN), none, none, some (.ldc2_w 71, 3, xL (5)), none, none, some (.lcmp, 1, xN), some (.ifCond .ne (31), 3, xJ 110),
  none, none, some (.aload_n 0, 1, xN), some (.getfield 31, 3, xF 4 3 2), none, none, some (.iconst 1, 1, xI (1)), some (.invokevirtual 63, 3, xN),
  none, none, some (.lconst 1, 1, xL 1), some (.lcmp, 1, xN), some (.ifCond .ne (18), 3, xJ 110), none, none, some (.aload_n 0, 1, xN),
  some (.getfield 31, 3, xF 4 3 2), none, none, some (.iconst 1, 1, xI (1)), some (.invokevirtual 63, 3, xN), none, none, some (.ldc2_w 73, 3, xL (8)),
  none, none, some (.lcmp, 1, xN), some (.ifCond .eq (5), 3, xJ 112), none, none, some (.iconst 0, 1, xI (0)), some (.ireturn, 1, xN),
  some (.aload_n 0, 1, xN), some (.getfield 31, 3, xF 4 3 2), none, none, some (.iconst 4, 1, xI (4)), some (.invokevirtual 63, 3, xN), none, none,
  some (.lstore 4, 2, xN), none, some (.aload_n 0, 1, xN), some (.getfield 31, 3, xF 4 3 2), none, none, some (.getfield 67, 3, xF 2 3 3), none,
  none, some (.ifCond .eq (5), 3, xJ 134), none, none, some (.iconst 0, 1, xI (0)), some (.ireturn, 1, xN), some (.aload_n 0, 1, xN), some (.getfield 15, 3, xF 4 1 2),
  none, none, some (.iload_n 1, 1, xN), some (.invokevirtual 75, 3, xN), none, none, some (.aload_n 0, 1, xN), some (.getfield 9, 3, xF 4 0 2),
  none, none, some (.aload_n 0, 1, xN), some (.getfield 35, 3, xF 4 4 2), none, none, some (.iconst 0, 1, xI (0)), some (.lload 4, 2, xN),
  none, some (.invokevirtual 43, 3, xN), none, none, some (.aload_n 0, 1, xN), some (.getfield 22, 3, xF 4 2 2), none, none,
  some (.aload_n 0, 1, xN), some (.getfield 35, 3, xF 4 4 2), none, none, some (.invokevirtual 79, 3, xN), none, none, some (.ireturn, 1, xN)]
def M_Ur_readHead : am_Me := (⟨R_Ur, "readHead", "()Z"⟩, prog_11_method_3_code, 6, (some .boolean), Y_Ur, cd_Ur_readHead, 4, 99, 0, 0)
set_option maxRecDepth 100000 in
theorem ok_Ur_readHead : am_ok S_c M_Ur_readHead := am_ok_ofY (Y := Y_Ur) (cd := cd_Ur_readHead) (by decide +kernel) rfl rfl rfl oY_Ur (by decide +kernel)
def cd_Ur_readEntries : List (Option am_I) := [some (.aload_n 0, 1, xN), some (.iconst (-1), 1, xI (-1)), some (.putfield 83, 3, xF 4 5 0), none, none, some (.aload_n 0, 1, xN), some (.iconst 0, 1, xI (0)), some (.putfield 86, 3, xF 4 6 0),
  none, none, some (.aload_n 0, 1, xN), some (.getfield 15, 3, xF 4 1 2), none, none, some (.getfield 89, 3, xF 3 10 0), none,
  none, some (.istore_n 1, 1, xN), some (.iconst 0, 1, xI (0)), some (.istore_n 2, 1, xN), some (.iload_n 2, 1, xN), some (.sipush 3000, 3, xI (3000)), none, none,
  some (.if_icmp .ge (101), 3, xJ 125), none, none, some (.aload_n 0, 1, xN), some (.getfield 31, 3, xF 4 3 2), none, none, some (.getfield 53, 3, xF 2 1 0),
  none, none, some (.aload_n 0, 1, xN), some (.getfield 31, 3, xF 4 3 2), none, none, some (.getfield 49, 3, xF 2 2 0), none,
  none, some (.if_icmp .ge (84), 3, xJ 125), none, none, some (.aload_n 0, 1, xN), some (.getfield 31, 3, xF 4 3 2), none, none,
  some (.getfield 53, 3, xF 2 1 0), none, none, some (.istore_n 3, 1, xN), some (.aload_n 0, 1, xN), some (.getfield 31, 3, xF 4 3 2), none, none,
  some (.invokevirtual 92, 3, xN), none, none, some (.lstore 4, 2, xN), none, some (.aload_n 0, 1, xN), some (.getfield 31, 3, xF 4 3 2), none,
  none, some (.getfield 67, 3, xF 2 3 3), none, none, some (.ifCond .eq (5), 3, xJ 73), none, none, some (.iconst 0, 1, xI (0)),
  some (.ireturn, 1, xN), some (.lload 4, 2, xN), none, some (.lconst 0, 1, xL 0), some (.lcmp, 1, xN), some (.ifCond .ne (10), 3, xJ 87), none, none,
  some (.aload_n 0, 1, xN), some (.invokevirtual 96, 3, xN), none, none, some (.goto (26), 3, xJ 110), none, none, some (.aload_n 0, 1, xN),
  some (.lload 4, 2, xN), none, some (.iload_n 3, 1, xN), some (.aload_n 0, 1, xN), some (.getfield 15, 3, xF 4 1 2), none, none, some (.getfield 89, 3, xF 3 10 0),
  none, none, some (.iload_n 1, 1, xN), some (.if_icmp .ne (7), 3, xJ 106), none, none, some (.iconst 1, 1, xI (1)), some (.goto (4), 3, xJ 107),
  none, none, some (.iconst 0, 1, xI (0)), some (.invokevirtual 99, 3, xN), none, none, some (.istore 6, 2, xN), none,
  some (.iload 6, 2, xN), none, some (.ifCond .ne (5), 3, xJ 119), none, none, some (.iconst 0, 1, xI (0)), some (.ireturn, 1, xN), some (.iinc 2 (1), 3, xI (1)),
  none, none, some (.goto (-102), 3, xJ 20), none, none, some (.aload_n 0, 1, xN), some (.getfield 86, 3, xF 4 6 0), none,
  none, some (.ifCond .ne (18), 3, xJ 147), none, none, some (.aload_n 0, 1, xN), some (.getfield 15, 3, xF 4 1 2), none, none,
  some (.getfield 89, 3, xF 3 10 0), none, none, some (.iload_n 1, 1, xN), some (.if_icmp .le (7), 3, xJ 147), none, none, some (.iconst 1, 1, xI (1)),
  some (.goto (4), 3, xJ 148), none, none, some (.iconst 0, 1, xI (0)), some (.ireturn, 1, xN)]
def M_Ur_readEntries : am_Me := (⟨R_Ur, "readEntries", "()Z"⟩, prog_11_method_4_code, 7, (some .boolean), Y_Ur, cd_Ur_readEntries, 4, 98, 0, 0)
set_option maxRecDepth 100000 in
theorem ok_Ur_readEntries : am_ok S_c M_Ur_readEntries := am_ok_ofY (Y := Y_Ur) (cd := cd_Ur_readEntries) (by decide +kernel) rfl rfl rfl oY_Ur (by decide +kernel)
def cd_Ur_endChildren : List (Option am_I) := [some (.aload_n 0, 1, xN), some (.getfield 86, 3, xF 4 6 0), none, none, some (.ifCond .ne (5), 3, xJ 9), none, none, some (.iconst 0, 1, xI (0)),
  some (.ireturn, 1, xN), some (.aload_n 0, 1, xN), some (.dup, 1, xN), some (.getfield 86, 3, xF 4 6 0), none, none, some (.iconst 1, 1, xI (1)), some (.isub, 1, xN),
  some (.putfield 86, 3, xF 4 6 0), none, none, some (.aload_n 0, 1, xN), some (.aload_n 0, 1, xN), some (.getfield 15, 3, xF 4 1 2), none, none,
  some (.getfield 103, 3, xF 3 1 2), none, none, some (.aload_n 0, 1, xN), some (.getfield 83, 3, xF 4 5 0), none, none, some (.iaload, 1, xN),
  some (.putfield 83, 3, xF 4 5 0), none, none, some (.iconst 1, 1, xI (1)), some (.ireturn, 1, xN)]
def M_Ur_endChildren : am_Me := (⟨R_Ur, "endChildren", "()Z"⟩, prog_11_method_5_code, 1, (some .boolean), Y_Ur, cd_Ur_endChildren, 0, 0, 0, 0)
set_option maxRecDepth 100000 in
theorem ok_Ur_endChildren : am_ok S_c M_Ur_endChildren := am_ok_ofY (Y := Y_Ur) (cd := cd_Ur_endChildren) (by decide +kernel) rfl rfl rfl oY_Ur (by decide +kernel)
def cd_Ur_readEntry : List (Option am_I) := [some (.aload_n 0, 1, xN), some (.getfield 22, 3, xF 4 2 2), none, none, some (.lload_n 1, 1, xN), some (.invokevirtual 107, 3, xN), none, none,
  some (.istore 5, 2, xN), none, some (.iload 5, 2, xN), none, some (.iconst (-1), 1, xI (-1)), some (.if_icmp .eq (16), 3, xJ 29), none, none,
  some (.aload_n 0, 1, xN), some (.getfield 15, 3, xF 4 1 2), none, none, some (.getfield 89, 3, xF 3 10 0), none, none, some (.sipush 200, 3, xI (200)),
  none, none, some (.if_icmp .ne (5), 3, xJ 31), none, none, some (.iconst 0, 1, xI (0)), some (.ireturn, 1, xN), some (.aload_n 0, 1, xN),
  some (.getfield 22, 3, xF 4 2 2), none, none, some (.getfield 111, 3, xF 5 1 2), none, none, some (.iload 5, 2, xN), none,
  some (.laload, 1, xN), some (.ldc2_w 115, 3, xL (17)), none, none, some (.lcmp, 1, xN), some (.ifCond .ne (7), 3, xJ 52), none, none,
  some (.iconst 1, 1, xI (1)), some (.goto (4), 3, xJ 53), none, none, some (.iconst 0, 1, xI (0)), some (.istore 6, 2, xN), none, some (.iload 6, 2, xN),
  none, some (.iload 4, 2, xN), none, some (.if_icmp .ne (15), 3, xJ 74), none, none, some (.iload 4, 2, xN), none,
  some (.ifCond .ne (12), 3, xJ 76), none, none, some (.aload_n 0, 1, xN), some (.getfield 86, 3, xF 4 6 0), none, none, some (.ifCond .ne (5), 3, xJ 76),
  none, none, some (.iconst 0, 1, xI (0)), some (.ireturn, 1, xN), some (.aload_n 0, 1, xN), some (.getfield 15, 3, xF 4 1 2), none, none,
  some (.aload_n 0, 1, xN), some (.getfield 22, 3, xF 4 2 2), none, none, some (.getfield 111, 3, xF 5 1 2), none, none, some (.iload 5, 2, xN),
  none, some (.laload, 1, xN), some (.aload_n 0, 1, xN), some (.getfield 83, 3, xF 4 5 0), none, none, some (.iload_n 3, 1, xN), some (.invokevirtual 117, 3, xN),
  none, none, some (.iload 5, 2, xN), none, some (.bipush 12, 2, xI (12)), none, some (.imul, 1, xN), some (.istore 7, 2, xN),
  none, some (.iload 7, 2, xN), none, some (.istore 8, 2, xN), none, some (.iload 8, 2, xN), none, some (.iload 7, 2, xN),
  none, some (.aload_n 0, 1, xN), some (.getfield 22, 3, xF 4 2 2), none, none, some (.getfield 121, 3, xF 5 3 2), none, none,
  some (.iload 5, 2, xN), none, some (.iaload, 1, xN), some (.iadd, 1, xN), some (.if_icmp .ge (66), 3, xJ 190), none, none, some (.aload_n 0, 1, xN),
  some (.getfield 31, 3, xF 4 3 2), none, none, some (.getfield 67, 3, xF 2 3 3), none, none, some (.ifCond .ne (56), 3, xJ 190), none,
  none, some (.aload_n 0, 1, xN), some (.getfield 22, 3, xF 4 2 2), none, none, some (.getfield 124, 3, xF 5 5 2), none, none,
  some (.iload 8, 2, xN), none, some (.iaload, 1, xN), some (.istore 9, 2, xN), none, some (.aload_n 0, 1, xN), some (.getfield 15, 3, xF 4 1 2), none,
  none, some (.aload_n 0, 1, xN), some (.getfield 22, 3, xF 4 2 2), none, none, some (.getfield 127, 3, xF 5 4 2), none, none,
  some (.iload 8, 2, xN), none, some (.laload, 1, xN), some (.iload 9, 2, xN), none, some (.aload_n 0, 1, xN), some (.iload 9, 2, xN), none,
  some (.aload_n 0, 1, xN), some (.getfield 22, 3, xF 4 2 2), none, none, some (.getfield 130, 3, xF 5 6 2), none, none, some (.iload 8, 2, xN),
  none, some (.laload, 1, xN), some (.invokevirtual 133, 3, xN), none, none, some (.invokevirtual 137, 3, xN), none, none,
  some (.iinc 8 (1), 3, xI (1)), none, none, some (.goto (-78), 3, xJ 109), none, none, some (.aload_n 0, 1, xN), some (.getfield 22, 3, xF 4 2 2),
  none, none, some (.getfield 141, 3, xF 5 2 2), none, none, some (.iload 5, 2, xN), none, some (.baload, 1, xJ 3),
  some (.ifCond .eq (26), 3, xJ 226), none, none, some (.aload_n 0, 1, xN), some (.aload_n 0, 1, xN), some (.getfield 15, 3, xF 4 1 2), none, none,
  some (.getfield 89, 3, xF 3 10 0), none, none, some (.iconst 1, 1, xI (1)), some (.isub, 1, xN), some (.putfield 83, 3, xF 4 5 0), none, none,
  some (.aload_n 0, 1, xN), some (.dup, 1, xN), some (.getfield 86, 3, xF 4 6 0), none, none, some (.iconst 1, 1, xI (1)), some (.iadd, 1, xN), some (.putfield 86, 3, xF 4 6 0),
  none, none, some (.aload_n 0, 1, xN), some (.getfield 31, 3, xF 4 3 2), none, none, some (.getfield 67, 3, xF 2 3 3), none,
  none, some (.ifCond .ne (16), 3, xJ 249), none, none, some (.aload_n 0, 1, xN), some (.getfield 86, 3, xF 4 6 0), none, none,
  some (.bipush 16, 2, xI (16)), none, some (.if_icmp .gt (7), 3, xJ 249), none, none, some (.iconst 1, 1, xI (1)), some (.goto (4), 3, xJ 250), none,
  none, some (.iconst 0, 1, xI (0)), some (.ireturn, 1, xN)]
def M_Ur_readEntry : am_Me := (⟨R_Ur, "readEntry", "(JIZ)Z"⟩, prog_11_method_6_code, 10, (some .boolean), Y_Ur, cd_Ur_readEntry, 3, 69, 0, 0)
set_option maxRecDepth 100000 in
theorem ok_Ur_readEntry : am_ok S_c M_Ur_readEntry := am_ok_ofY (Y := Y_Ur) (cd := cd_Ur_readEntry) (by decide +kernel) rfl rfl rfl oY_Ur (by decide +kernel)
def cd_Ur_readValue : List (Option am_I) := [some (.iload_n 1, 1, xN), some (.tableswitch (236) (1) (37) #[163, 236, 236, 236, 182, 236, 163, 211, 236, 236, 173, 236, 191, 236, 199, 236, 236, 236, 236, 236, 236, 236, 236, 220, 209, 236, 199, 236, 236, 236, 236, 236, 207, 236, 199, 236, 173], 163, xN), none, none, none, none, none, none,
  none, none, none, none, none, none, none, none,
  none, none, none, none, none, none, none, none,
  none, none, none, none, none, none, none, none,
  none, none, none, none, none, none, none, none,
  none, none, none, none, none, none, none, none,
  none, none, none, none, none, none, none, none,
  none, none, none, none, none, none, none, none,
  none, none, none, none, none, none, none, none,
  none, none, none, none, none, none, none, none,
  none, none, none, none, none, none, none, none,
  none, none, none, none, none, none, none, none,
  none, none, none, none, none, none, none, none,
  none, none, none, none, none, none, none, none,
  none, none, none, none, none, none, none, none,
  none, none, none, none, none, none, none, none,
  none, none, none, none, none, none, none, none,
  none, none, none, none, none, none, none, none,
  none, none, none, none, none, none, none, none,
  none, none, none, none, none, none, none, none,
  none, none, none, none, some (.aload_n 0, 1, xN), some (.getfield 31, 3, xF 4 3 2), none, none,
  some (.bipush 8, 2, xI (8)), none, some (.invokevirtual 63, 3, xN), none, none, some (.lreturn, 1, xN), some (.aload_n 0, 1, xN), some (.getfield 31, 3, xF 4 3 2),
  none, none, some (.iconst 1, 1, xI (1)), some (.invokevirtual 63, 3, xN), none, none, some (.lreturn, 1, xN), some (.aload_n 0, 1, xN),
  some (.getfield 31, 3, xF 4 3 2), none, none, some (.iconst 2, 1, xI (2)), some (.invokevirtual 63, 3, xN), none, none, some (.lreturn, 1, xN),
  some (.aload_n 0, 1, xN), some (.getfield 31, 3, xF 4 3 2), none, none, some (.invokevirtual 145, 3, xN), none, none, some (.lreturn, 1, xN),
  some (.aload_n 0, 1, xN), some (.getfield 31, 3, xF 4 3 2), none, none, some (.invokevirtual 92, 3, xN), none, none, some (.lreturn, 1, xN),
  some (.lload_n 2, 1, xN), some (.lreturn, 1, xN), some (.lconst 1, 1, xL 1), some (.lreturn, 1, xN), some (.aload_n 0, 1, xN), some (.getfield 31, 3, xF 4 3 2), none, none,
  some (.invokevirtual 148, 3, xN), none, none, some (.i2l, 1, xN), some (.lreturn, 1, xN), some (.aload_n 0, 1, xN), some (.getfield 31, 3, xF 4 3 2), none,
  none, some (.aload_n 0, 1, xN), some (.getfield 31, 3, xF 4 3 2), none, none, some (.invokevirtual 92, 3, xN), none, none,
  some (.invokevirtual 152, 3, xN), none, none, some (.lconst 0, 1, xL 0), some (.lreturn, 1, xN), some (.aload_n 0, 1, xN), some (.getfield 31, 3, xF 4 3 2), none,
  none, some (.iconst 4, 1, xI (4)), some (.invokevirtual 63, 3, xN), none, none, some (.lreturn, 1, xN)]
def M_Ur_readValue : am_Me := (⟨R_Ur, "readValue", "(IJ)J"⟩, prog_11_method_7_code, 4, (some .long), Y_Ur, cd_Ur_readValue, 2, 46, 0, 0)
set_option maxRecDepth 100000 in
theorem ok_Ur_readValue : am_ok S_c M_Ur_readValue := am_ok_ofY (Y := Y_Ur) (cd := cd_Ur_readValue) (by decide +kernel) rfl rfl rfl oY_Ur (by decide +kernel)
def cd_Ab_read : List (Option am_I) := [some (.aload_n 0, 1, xN), some (.iconst 0, 1, xI (0)), some (.putfield 35, 3, xF 5 7 0), none, none, some (.iconst 0, 1, xI (0)), some (.istore_n 2, 1, xN), some (.iload_n 2, 1, xN),
  some (.bipush 40, 2, xI (40)), none, some (.if_icmp .gt (81), 3, xJ 91), none, none, some (.aload_n 1, 1, xN), some (.invokevirtual 39, 3, xN), none,
  none, some (.lstore_n 3, 1, xN), some (.aload_n 1, 1, xN), some (.getfield 45, 3, xF 2 3 3), none, none, some (.ifCond .eq (5), 3, xJ 27), none,
  none, some (.iconst 0, 1, xI (0)), some (.ireturn, 1, xN), some (.lload_n 3, 1, xN), some (.lconst 0, 1, xL 0), some (.lcmp, 1, xN), some (.ifCond .ne (5), 3, xJ 35), none,
  none, some (.iconst 1, 1, xI (1)), some (.ireturn, 1, xN), some (.aload_n 0, 1, xN), some (.getfield 35, 3, xF 5 7 0), none, none, some (.bipush 40, 2, xI (40)),
  none, some (.if_icmp .eq (12), 3, xJ 53), none, none, some (.aload_n 0, 1, xN), some (.lload_n 3, 1, xN), some (.invokevirtual 49, 3, xN), none,
  none, some (.iconst (-1), 1, xI (-1)), some (.if_icmp .eq (5), 3, xJ 55), none, none, some (.iconst 0, 1, xI (0)), some (.ireturn, 1, xN), some (.aload_n 0, 1, xN),
  some (.getfield 9, 3, xF 5 0 2), none, none, some (.aload_n 0, 1, xN), some (.getfield 35, 3, xF 5 7 0), none, none, some (.lload_n 3, 1, xN),
  some (.lastore, 1, xN), some (.aload_n 0, 1, xN), some (.aload_n 1, 1, xN), some (.invokevirtual 53, 3, xN), none, none, some (.ifCond .ne (5), 3, xJ 75), none,
  none, some (.iconst 0, 1, xI (0)), some (.ireturn, 1, xN), some (.aload_n 0, 1, xN), some (.dup, 1, xN), some (.getfield 35, 3, xF 5 7 0), none, none,
  some (.iconst 1, 1, xI (1)), some (.iadd, 1, xN), some (.putfield 35, 3, xF 5 7 0), none, none, some (.iinc 2 (1), 3, xI (1)), none, none,
  some (.goto (-81), 3, xJ 7), none, none, some (.iconst 0, 1, xI (0)), some (.ireturn, 1, xN)]
def M_Ab_read : am_Me := (⟨R_Ab, "read", "(LFrameFinder$Cursor;)Z"⟩, prog_2_method_2_code, 5, (some .boolean), Y_Ab, cd_Ab_read, 3, 75, 0, 0)
set_option maxRecDepth 100000 in
theorem ok_Ab_read : am_ok S_c M_Ab_read := am_ok_ofY (Y := Y_Ab) (cd := cd_Ab_read) (by decide +kernel) rfl rfl rfl oY_Ab (by decide +kernel)
def cd_Ab_withNumber : List (Option am_I) := [some (.iconst 0, 1, xI (0)), some (.istore_n 3, 1, xN), some (.iload_n 3, 1, xN), some (.aload_n 0, 1, xN), some (.getfield 35, 3, xF 5 7 0), none, none, some (.if_icmp .ge (22), 3, xJ 29),
  none, none, some (.aload_n 0, 1, xN), some (.getfield 9, 3, xF 5 0 2), none, none, some (.iload_n 3, 1, xN), some (.laload, 1, xN),
  some (.lload_n 1, 1, xN), some (.lcmp, 1, xN), some (.ifCond .ne (5), 3, xJ 23), none, none, some (.iload_n 3, 1, xN), some (.ireturn, 1, xN), some (.iinc 3 (1), 3, xI (1)),
  none, none, some (.goto (-24), 3, xJ 2), none, none, some (.iconst (-1), 1, xI (-1)), some (.ireturn, 1, xN)]
def M_Ab_withNumber : am_Me := (⟨R_Ab, "withNumber", "(J)I"⟩, prog_2_method_3_code, 4, (some .int), Y_Ab, cd_Ab_withNumber, 0, 0, 0, 0)
set_option maxRecDepth 100000 in
theorem ok_Ab_withNumber : am_ok S_c M_Ab_withNumber := am_ok_ofY (Y := Y_Ab) (cd := cd_Ab_withNumber) (by decide +kernel) rfl rfl rfl oY_Ab (by decide +kernel)
def cd_Ab_readOne : List (Option am_I) := [some (.aload_n 0, 1, xN), some (.getfield 15, 3, xF 5 1 2), none, none, some (.aload_n 0, 1, xN), some (.getfield 35, 3, xF 5 7 0), none, none,
  some (.aload_n 1, 1, xN), some (.invokevirtual 39, 3, xN), none, none, some (.lastore, 1, xN), some (.aload_n 1, 1, xN), some (.iconst 1, 1, xI (1)), some (.invokevirtual 57, 3, xN),
  none, none, some (.lstore_n 2, 1, xN), some (.aload_n 1, 1, xN), some (.getfield 45, 3, xF 2 3 3), none, none, some (.ifCond .ne (9), 3, xJ 32),
  none, none, some (.lload_n 2, 1, xN), some (.lconst 1, 1, xL 1), some (.lcmp, 1, xN), some (.ifCond .le (5), 3, xJ 34), none, none,
  some (.iconst 0, 1, xI (0)), some (.ireturn, 1, xN), some (.aload_n 0, 1, xN), some (.getfield 18, 3, xF 5 2 2), none, none, some (.aload_n 0, 1, xN), some (.getfield 35, 3, xF 5 7 0),
  none, none, some (.lload_n 2, 1, xN), some (.lconst 1, 1, xL 1), some (.lcmp, 1, xN), some (.ifCond .ne (7), 3, xJ 52), none, none,
  some (.iconst 1, 1, xI (1)), some (.goto (4), 3, xJ 53), none, none, some (.iconst 0, 1, xI (0)), some (.bastore, 1, xJ 3), some (.iconst 0, 1, xI (0)), some (.istore 4, 2, xN),
  none, some (.iload 4, 2, xN), none, some (.bipush 12, 2, xI (12)), none, some (.if_icmp .gt (129), 3, xJ 190), none, none,
  some (.aload_n 1, 1, xN), some (.invokevirtual 39, 3, xN), none, none, some (.lstore 5, 2, xN), none, some (.aload_n 1, 1, xN), some (.invokevirtual 39, 3, xN),
  none, none, some (.lstore 7, 2, xN), none, some (.aload_n 1, 1, xN), some (.getfield 45, 3, xF 2 3 3), none, none,
  some (.ifCond .eq (5), 3, xJ 85), none, none, some (.iconst 0, 1, xI (0)), some (.ireturn, 1, xN), some (.lload 5, 2, xN), none, some (.lconst 0, 1, xL 0),
  some (.lcmp, 1, xN), some (.ifCond .ne (23), 3, xJ 112), none, none, some (.lload 7, 2, xN), none, some (.lconst 0, 1, xL 0), some (.lcmp, 1, xN),
  some (.ifCond .ne (16), 3, xJ 112), none, none, some (.aload_n 0, 1, xN), some (.getfield 22, 3, xF 5 3 2), none, none, some (.aload_n 0, 1, xN),
  some (.getfield 35, 3, xF 5 7 0), none, none, some (.iload 4, 2, xN), none, some (.iastore, 1, xN), some (.iconst 1, 1, xI (1)), some (.ireturn, 1, xN),
  some (.iload 4, 2, xN), none, some (.bipush 12, 2, xI (12)), none, some (.if_icmp .eq (11), 3, xJ 127), none, none, some (.lload 7, 2, xN),
  none, some (.invokestatic 60, 3, xN), none, none, some (.ifCond .ne (5), 3, xJ 129), none, none, some (.iconst 0, 1, xI (0)),
  some (.ireturn, 1, xN), some (.aload_n 0, 1, xN), some (.getfield 35, 3, xF 5 7 0), none, none, some (.bipush 12, 2, xI (12)), none, some (.imul, 1, xN),
  some (.iload 4, 2, xN), none, some (.iadd, 1, xN), some (.istore 9, 2, xN), none, some (.aload_n 0, 1, xN), some (.getfield 26, 3, xF 5 4 2), none,
  none, some (.iload 9, 2, xN), none, some (.lload 5, 2, xN), none, some (.lastore, 1, xN), some (.aload_n 0, 1, xN), some (.getfield 29, 3, xF 5 5 2),
  none, none, some (.iload 9, 2, xN), none, some (.lload 7, 2, xN), none, some (.l2i, 1, xN), some (.iastore, 1, xN),
  some (.aload_n 0, 1, xN), some (.getfield 32, 3, xF 5 6 2), none, none, some (.iload 9, 2, xN), none, some (.lload 7, 2, xN), none,
  some (.ldc2_w 64, 3, xL (33)), none, none, some (.lcmp, 1, xN), some (.ifCond .ne (10), 3, xJ 182), none, none, some (.aload_n 1, 1, xN),
  some (.invokevirtual 66, 3, xN), none, none, some (.goto (4), 3, xJ 183), none, none, some (.lconst 0, 1, xL 0), some (.lastore, 1, xN),
  some (.iinc 4 (1), 3, xI (1)), none, none, some (.goto (-130), 3, xJ 57), none, none, some (.iconst 0, 1, xI (0)), some (.ireturn, 1, xN)]
def M_Ab_readOne : am_Me := (⟨R_Ab, "readOne", "(LFrameFinder$Cursor;)Z"⟩, prog_2_method_4_code, 10, (some .boolean), Y_Ab, cd_Ab_readOne, 2, 46, 0, 0)
set_option maxRecDepth 100000 in
theorem ok_Ab_readOne : am_ok S_c M_Ab_readOne := am_ok_ofY (Y := Y_Ab) (cd := cd_Ab_readOne) (by decide +kernel) rfl rfl rfl oY_Ab (by decide +kernel)
def cd_Ab_isForm : List (Option am_I) := [some (.lload_n 0, 1, xN), some (.lconst 1, 1, xL 1), some (.lcmp, 1, xN), some (.ifCond .eq (57), 3, xJ 60), none, none, some (.lload_n 0, 1, xN), some (.invokestatic 69, 3, xN),
  none, none, some (.ifCond .ne (50), 3, xJ 60), none, none, some (.lload_n 0, 1, xN), some (.invokestatic 72, 3, xN), none,
  none, some (.ifCond .ne (43), 3, xJ 60), none, none, some (.lload_n 0, 1, xN), some (.ldc2_w 75, 3, xL (19)), none, none,
  some (.lcmp, 1, xN), some (.ifCond .eq (35), 3, xJ 60), none, none, some (.lload_n 0, 1, xN), some (.ldc2_w 77, 3, xL (23)), none, none,
  some (.lcmp, 1, xN), some (.ifCond .eq (27), 3, xJ 60), none, none, some (.lload_n 0, 1, xN), some (.ldc2_w 79, 3, xL (24)), none, none,
  some (.lcmp, 1, xN), some (.ifCond .eq (19), 3, xJ 60), none, none, some (.lload_n 0, 1, xN), some (.ldc2_w 81, 3, xL (27)), none, none,
  some (.lcmp, 1, xN), some (.ifCond .eq (11), 3, xJ 60), none, none, some (.lload_n 0, 1, xN), some (.ldc2_w 83, 3, xL (35)), none, none,
  some (.lcmp, 1, xN), some (.ifCond .ne (7), 3, xJ 64), none, none, some (.iconst 1, 1, xI (1)), some (.goto (4), 3, xJ 65), none, none,
  some (.iconst 0, 1, xI (0)), some (.ireturn, 1, xN)]
def M_Ab_isForm : am_Me := (⟨R_Ab, "isForm", "(J)Z"⟩, prog_2_method_5_code, 2, (some .boolean), Y_Ab, cd_Ab_isForm, 1, 21, 0, 0)
set_option maxRecDepth 100000 in
theorem ok_Ab_isForm : am_ok S_c M_Ab_isForm := am_ok_ofY (Y := Y_Ab) (cd := cd_Ab_isForm) (by decide +kernel) rfl rfl rfl oY_Ab (by decide +kernel)
def cd_Ab_isConstantForm : List (Option am_I) := [some (.lload_n 0, 1, xN), some (.ldc2_w 85, 3, xL (11)), none, none, some (.lcmp, 1, xN), some (.ifCond .eq (59), 3, xJ 64), none, none,
  some (.lload_n 0, 1, xN), some (.ldc2_w 87, 3, xL (5)), none, none, some (.lcmp, 1, xN), some (.ifCond .eq (51), 3, xJ 64), none, none,
  some (.lload_n 0, 1, xN), some (.ldc2_w 89, 3, xL (6)), none, none, some (.lcmp, 1, xN), some (.ifCond .eq (43), 3, xJ 64), none, none,
  some (.lload_n 0, 1, xN), some (.ldc2_w 91, 3, xL (7)), none, none, some (.lcmp, 1, xN), some (.ifCond .eq (35), 3, xJ 64), none, none,
  some (.lload_n 0, 1, xN), some (.ldc2_w 93, 3, xL (13)), none, none, some (.lcmp, 1, xN), some (.ifCond .eq (27), 3, xJ 64), none, none,
  some (.lload_n 0, 1, xN), some (.ldc2_w 95, 3, xL (15)), none, none, some (.lcmp, 1, xN), some (.ifCond .eq (19), 3, xJ 64), none, none,
  some (.lload_n 0, 1, xN), some (.ldc2_w 64, 3, xL (33)), none, none, some (.lcmp, 1, xN), some (.ifCond .eq (11), 3, xJ 64), none, none,
  some (.lload_n 0, 1, xN), some (.ldc2_w 97, 3, xL (25)), none, none, some (.lcmp, 1, xN), some (.ifCond .ne (7), 3, xJ 68), none, none,
  some (.iconst 1, 1, xI (1)), some (.goto (4), 3, xJ 69), none, none, some (.iconst 0, 1, xI (0)), some (.ireturn, 1, xN)]
def M_Ab_isConstantForm : am_Me := (⟨R_Ab, "isConstantForm", "(J)Z"⟩, prog_2_method_6_code, 2, (some .boolean), Y_Ab, cd_Ab_isConstantForm, 0, 0, 0, 0)
set_option maxRecDepth 100000 in
theorem ok_Ab_isConstantForm : am_ok S_c M_Ab_isConstantForm := am_ok_ofY (Y := Y_Ab) (cd := cd_Ab_isConstantForm) (by decide +kernel) rfl rfl rfl oY_Ab (by decide +kernel)
def cd_Ab_isTextForm : List (Option am_I) := [some (.lload_n 0, 1, xN), some (.ldc2_w 99, 3, xL (8)), none, none, some (.lcmp, 1, xN), some (.ifCond .eq (27), 3, xJ 32), none, none,
  some (.lload_n 0, 1, xN), some (.ldc2_w 101, 3, xL (14)), none, none, some (.lcmp, 1, xN), some (.ifCond .eq (19), 3, xJ 32), none, none,
  some (.lload_n 0, 1, xN), some (.ldc2_w 103, 3, xL (31)), none, none, some (.lcmp, 1, xN), some (.ifCond .eq (11), 3, xJ 32), none, none,
  some (.lload_n 0, 1, xN), some (.ldc2_w 105, 3, xL (37)), none, none, some (.lcmp, 1, xN), some (.ifCond .ne (7), 3, xJ 36), none, none,
  some (.iconst 1, 1, xI (1)), some (.goto (4), 3, xJ 37), none, none, some (.iconst 0, 1, xI (0)), some (.ireturn, 1, xN)]
def M_Ab_isTextForm : am_Me := (⟨R_Ab, "isTextForm", "(J)Z"⟩, prog_2_method_7_code, 2, (some .boolean), Y_Ab, cd_Ab_isTextForm, 0, 0, 0, 0)
set_option maxRecDepth 100000 in
theorem ok_Ab_isTextForm : am_ok S_c M_Ab_isTextForm := am_ok_ofY (Y := Y_Ab) (cd := cd_Ab_isTextForm) (by decide +kernel) rfl rfl rfl oY_Ab (by decide +kernel)
def cd_Ra_begin : List (Option am_I) := [some (.aload_n 0, 1, xN), some (.getfield 18, 3, xF 6 2 2), none, none, some (.iload_n 1, 1, xN), some (.aload_n 0, 1, xN), some (.getfield 25, 3, xF 6 4 0), none,
  none, some (.iastore, 1, xN), some (.return_, 1, xN)]
def M_Ra_begin : am_Me := (⟨R_Ra, "begin", "(I)V"⟩, prog_7_method_2_code, 2, none, Y_Ra, cd_Ra_begin, 0, 0, 0, 0)
set_option maxRecDepth 100000 in
theorem ok_Ra_begin : am_ok S_c M_Ra_begin := am_ok_ofY (Y := Y_Ra) (cd := cd_Ra_begin) (by decide +kernel) rfl rfl rfl oY_Ra (by decide +kernel)
def cd_Ra_end : List (Option am_I) := [some (.aload_n 0, 1, xN), some (.getfield 22, 3, xF 6 3 2), none, none, some (.iload_n 1, 1, xN), some (.aload_n 0, 1, xN), some (.getfield 25, 3, xF 6 4 0), none,
  none, some (.iastore, 1, xN), some (.return_, 1, xN)]
def M_Ra_end : am_Me := (⟨R_Ra, "end", "(I)V"⟩, prog_7_method_3_code, 2, none, Y_Ra, cd_Ra_end, 0, 0, 0, 0)
set_option maxRecDepth 100000 in
theorem ok_Ra_end : am_ok S_c M_Ra_end := am_ok_ofY (Y := Y_Ra) (cd := cd_Ra_end) (by decide +kernel) rfl rfl rfl oY_Ra (by decide +kernel)
def cd_Ra_add : List (Option am_I) := [some (.aload_n 0, 1, xN), some (.getfield 25, 3, xF 6 4 0), none, none, some (.sipush 300, 3, xI (300)), none, none, some (.if_icmp .ne (5), 3, xJ 12),
  none, none, some (.iconst 0, 1, xI (0)), some (.ireturn, 1, xN), some (.aload_n 0, 1, xN), some (.getfield 9, 3, xF 6 0 2), none, none,
  some (.aload_n 0, 1, xN), some (.getfield 25, 3, xF 6 4 0), none, none, some (.lload_n 1, 1, xN), some (.lastore, 1, xN), some (.aload_n 0, 1, xN), some (.getfield 15, 3, xF 6 1 2),
  none, none, some (.aload_n 0, 1, xN), some (.getfield 25, 3, xF 6 4 0), none, none, some (.lload_n 3, 1, xN), some (.lastore, 1, xN),
  some (.aload_n 0, 1, xN), some (.dup, 1, xN), some (.getfield 25, 3, xF 6 4 0), none, none, some (.iconst 1, 1, xI (1)), some (.iadd, 1, xN), some (.putfield 25, 3, xF 6 4 0),
  none, none, some (.iconst 1, 1, xI (1)), some (.ireturn, 1, xN)]
def M_Ra_add : am_Me := (⟨R_Ra, "add", "(JJ)Z"⟩, prog_7_method_4_code, 5, (some .boolean), Y_Ra, cd_Ra_add, 0, 0, 0, 0)
set_option maxRecDepth 100000 in
theorem ok_Ra_add : am_ok S_c M_Ra_add := am_ok_ofY (Y := Y_Ra) (cd := cd_Ra_add) (by decide +kernel) rfl rfl rfl oY_Ra (by decide +kernel)
def cd_Ra_hold : List (Option am_I) := [some (.aload_n 0, 1, xN), some (.getfield 18, 3, xF 6 2 2), none, none, some (.iload_n 1, 1, xN), some (.iaload, 1, xN), some (.istore 4, 2, xN), none,
  some (.iload 4, 2, xN), none, some (.aload_n 0, 1, xN), some (.getfield 22, 3, xF 6 3 2), none, none, some (.iload_n 1, 1, xN), some (.iaload, 1, xN),
  some (.if_icmp .ge (39), 3, xJ 55), none, none, some (.lload_n 2, 1, xN), some (.aload_n 0, 1, xN), some (.getfield 9, 3, xF 6 0 2), none, none,
  some (.iload 4, 2, xN), none, some (.laload, 1, xN), some (.invokestatic 29, 3, xN), none, none, some (.ifCond .ne (19), 3, xJ 49), none,
  none, some (.lload_n 2, 1, xN), some (.aload_n 0, 1, xN), some (.getfield 15, 3, xF 6 1 2), none, none, some (.iload 4, 2, xN), none,
  some (.laload, 1, xN), some (.invokestatic 29, 3, xN), none, none, some (.ifCond .eq (5), 3, xJ 49), none, none, some (.iconst 1, 1, xI (1)),
  some (.ireturn, 1, xN), some (.iinc 4 (1), 3, xI (1)), none, none, some (.goto (-44), 3, xJ 8), none, none, some (.iconst 0, 1, xI (0)),
  some (.ireturn, 1, xN)]
def M_Ra_hold : am_Me := (⟨R_Ra, "hold", "(IJ)Z"⟩, prog_7_method_5_code, 5, (some .boolean), Y_Ra, cd_Ra_hold, 1, 23, 0, 0)
set_option maxRecDepth 100000 in
theorem ok_Ra_hold : am_ok S_c M_Ra_hold := am_ok_ofY (Y := Y_Ra) (cd := cd_Ra_hold) (by decide +kernel) rfl rfl rfl oY_Ra (by decide +kernel)
def cd_Va_read : List (Option am_I) := [some (.aload_n 0, 1, xN), some (.iconst 0, 1, xI (0)), some (.putfield 35, 3, xF 7 6 3), none, none, some (.aload_n 0, 1, xN), some (.getfield 19, 3, xF 7 2 2), none,
  none, some (.iconst 0, 1, xI (0)), some (.putfield 39, 3, xF 6 4 0), none, none, some (.iconst 0, 1, xI (0)), some (.istore_n 1, 1, xN), some (.iload_n 1, 1, xN),
  some (.aload_n 0, 1, xN), some (.getfield 15, 3, xF 7 1 2), none, none, some (.getfield 45, 3, xF 3 11 0), none, none, some (.iconst 4, 1, xI (4)),
  some (.imul, 1, xN), some (.if_icmp .ge (31), 3, xJ 56), none, none, some (.aload_n 0, 1, xN), some (.getfield 15, 3, xF 7 1 2), none, none,
  some (.getfield 50, 3, xF 3 8 2), none, none, some (.iload_n 1, 1, xN), some (.iaload, 1, xN), some (.istore_n 2, 1, xN), some (.iload_n 2, 1, xN), some (.ifCond .eq (11), 3, xJ 50),
  none, none, some (.iload_n 2, 1, xN), some (.bipush 23, 2, xI (23)), none, some (.if_icmp .eq (5), 3, xJ 50), none, none,
  some (.iconst 0, 1, xI (0)), some (.ireturn, 1, xN), some (.iinc 1 (1), 3, xI (1)), none, none, some (.goto (-38), 3, xJ 15), none, none,
  some (.iconst 0, 1, xI (0)), some (.istore_n 1, 1, xN), some (.iload_n 1, 1, xN), some (.aload_n 0, 1, xN), some (.getfield 15, 3, xF 7 1 2), none, none, some (.getfield 54, 3, xF 3 10 0),
  none, none, some (.if_icmp .ge (101), 3, xJ 167), none, none, some (.aload_n 0, 1, xN), some (.getfield 35, 3, xF 7 6 3), none,
  none, some (.ifCond .ne (94), 3, xJ 167), none, none, some (.aload_n 0, 1, xN), some (.getfield 19, 3, xF 7 2 2), none, none,
  some (.iload_n 1, 1, xN), some (.invokevirtual 55, 3, xN), none, none, some (.aload_n 0, 1, xN), some (.getfield 15, 3, xF 7 1 2), none, none,
  some (.iload_n 1, 1, xN), some (.invokevirtual 59, 3, xN), none, none, some (.ifCond .eq (8), 3, xJ 100), none, none, some (.aload_n 0, 1, xN),
  some (.iload_n 1, 1, xN), some (.invokevirtual 63, 3, xN), none, none, some (.aload_n 0, 1, xN), some (.getfield 15, 3, xF 7 1 2), none, none,
  some (.iload_n 1, 1, xN), some (.iconst 3, 1, xI (3)), some (.invokevirtual 66, 3, xN), none, none, some (.ifCond .eq (11), 3, xJ 120), none, none,
  some (.aload_n 0, 1, xN), some (.iload_n 1, 1, xN), some (.invokevirtual 70, 3, xN), none, none, some (.goto (36), 3, xJ 153), none, none,
  some (.aload_n 0, 1, xN), some (.getfield 15, 3, xF 7 1 2), none, none, some (.iload_n 1, 1, xN), some (.invokevirtual 73, 3, xN), none, none,
  some (.ifCond .eq (25), 3, xJ 153), none, none, some (.aload_n 0, 1, xN), some (.aload_n 0, 1, xN), some (.getfield 15, 3, xF 7 1 2), none, none,
  some (.iload_n 1, 1, xN), some (.iconst 1, 1, xI (1)), some (.invokevirtual 76, 3, xN), none, none, some (.aload_n 0, 1, xN), some (.getfield 15, 3, xF 7 1 2), none,
  none, some (.iload_n 1, 1, xN), some (.iconst 2, 1, xI (2)), some (.invokevirtual 76, 3, xN), none, none, some (.invokevirtual 80, 3, xN), none,
  none, some (.aload_n 0, 1, xN), some (.getfield 19, 3, xF 7 2 2), none, none, some (.iload_n 1, 1, xN), some (.invokevirtual 84, 3, xN), none,
  none, some (.iinc 1 (1), 3, xI (1)), none, none, some (.goto (-106), 3, xJ 58), none, none, some (.aload_n 0, 1, xN),
  some (.getfield 35, 3, xF 7 6 3), none, none, some (.ifCond .ne (7), 3, xJ 178), none, none, some (.iconst 1, 1, xI (1)), some (.goto (4), 3, xJ 179),
  none, none, some (.iconst 0, 1, xI (0)), some (.ireturn, 1, xN)]
def M_Va_read : am_Me := (⟨R_Va, "read", "()Z"⟩, prog_12_method_2_code, 3, (some .boolean), Y_Va, cd_Va_read, 6, 151, 0, 0)
set_option maxRecDepth 100000 in
theorem ok_Va_read : am_ok S_c M_Va_read := am_ok_ofY (Y := Y_Va) (cd := cd_Va_read) (by decide +kernel) rfl rfl rfl oY_Va (by decide +kernel)
def cd_Va_resolve : List (Option am_I) := [some (.iconst 0, 1, xI (0)), some (.istore_n 2, 1, xN), some (.iload_n 2, 1, xN), some (.bipush 7, 2, xI (7)), none, some (.if_icmp .ge (61), 3, xJ 66), none, none,
  some (.aload_n 0, 1, xN), some (.getfield 15, 3, xF 7 1 2), none, none, some (.iload_n 1, 1, xN), some (.iload_n 2, 1, xN), some (.invokevirtual 66, 3, xN), none,
  none, some (.ifCond .eq (43), 3, xJ 60), none, none, some (.iload_n 1, 1, xN), some (.bipush 7, 2, xI (7)), none, some (.imul, 1, xN),
  some (.iload_n 2, 1, xN), some (.iadd, 1, xN), some (.istore_n 3, 1, xN), some (.aload_n 0, 1, xN), some (.getfield 15, 3, xF 7 1 2), none, none, some (.getfield 87, 3, xF 3 5 2),
  none, none, some (.iload_n 3, 1, xN), some (.aload_n 0, 1, xN), some (.iload_n 1, 1, xN), some (.iload_n 2, 1, xN), some (.aload_n 0, 1, xN), some (.getfield 15, 3, xF 7 1 2),
  none, none, some (.getfield 91, 3, xF 3 4 2), none, none, some (.iload_n 3, 1, xN), some (.iaload, 1, xN), some (.aload_n 0, 1, xN),
  some (.getfield 15, 3, xF 7 1 2), none, none, some (.getfield 87, 3, xF 3 5 2), none, none, some (.iload_n 3, 1, xN), some (.laload, 1, xN),
  some (.invokevirtual 94, 3, xN), none, none, some (.lastore, 1, xN), some (.iinc 2 (1), 3, xI (1)), none, none, some (.goto (-61), 3, xJ 2),
  none, none, some (.return_, 1, xN)]
def M_Va_resolve : am_Me := (⟨R_Va, "resolve", "(I)V"⟩, prog_12_method_3_code, 4, none, Y_Va, cd_Va_resolve, 5, 128, 0, 0)
set_option maxRecDepth 100000 in
theorem ok_Va_resolve : am_ok S_c M_Va_resolve := am_ok_ofY (Y := Y_Va) (cd := cd_Va_resolve) (by decide +kernel) rfl rfl rfl oY_Va (by decide +kernel)
def cd_Va_resolved : List (Option am_I) := [some (.aload_n 0, 1, xN), some (.getfield 15, 3, xF 7 1 2), none, none, some (.getfield 98, 3, xF 3 2 2), none, none, some (.iload_n 1, 1, xN),
  some (.iaload, 1, xN), some (.istore 6, 2, xN), none, some (.iload_n 2, 1, xN), some (.tableswitch (105) (0) (4) #[36, 46, 56, 85, 95], 36, xN), none, none, none,
  none, none, none, none, none, none, none, none,
  none, none, none, none, none, none, none, none,
  none, none, none, none, none, none, none, none,
  none, none, none, none, none, none, none, none,
  some (.aload_n 0, 1, xN), some (.iload 6, 2, xN), none, some (.iload_n 3, 1, xN), some (.lload 4, 2, xN), none, some (.invokevirtual 101, 3, xN), none,
  none, some (.lreturn, 1, xN), some (.aload_n 0, 1, xN), some (.iload 6, 2, xN), none, some (.iload_n 3, 1, xN), some (.lload 4, 2, xN), none,
  some (.invokevirtual 105, 3, xN), none, none, some (.lreturn, 1, xN), some (.iload_n 3, 1, xN), some (.i2l, 1, xN), some (.invokestatic 108, 3, xN), none,
  none, some (.ifCond .eq (14), 3, xJ 87), none, none, some (.aload_n 0, 1, xN), some (.iload_n 1, 1, xN), some (.invokevirtual 114, 3, xN), none,
  none, some (.lload 4, 2, xN), none, some (.ladd, 1, xN), some (.goto (12), 3, xJ 96), none, none, some (.aload_n 0, 1, xN),
  some (.iload 6, 2, xN), none, some (.iload_n 3, 1, xN), some (.lload 4, 2, xN), none, some (.invokevirtual 105, 3, xN), none, none,
  some (.lreturn, 1, xN), some (.aload_n 0, 1, xN), some (.iload 6, 2, xN), none, some (.iload_n 3, 1, xN), some (.lload 4, 2, xN), none, some (.invokevirtual 118, 3, xN),
  none, none, some (.lreturn, 1, xN), some (.aload_n 0, 1, xN), some (.iload 6, 2, xN), none, some (.iload_n 3, 1, xN), some (.lload 4, 2, xN),
  none, some (.invokevirtual 121, 3, xN), none, none, some (.lreturn, 1, xN), some (.iload_n 3, 1, xN), some (.i2l, 1, xN), some (.invokestatic 108, 3, xN),
  none, none, some (.ifCond .eq (8), 3, xJ 130), none, none, some (.lload 4, 2, xN), none, some (.goto (7), 3, xJ 134),
  none, none, some (.aload_n 0, 1, xN), some (.invokevirtual 124, 3, xN), none, none, some (.lreturn, 1, xN)]
def M_Va_resolved : am_Me := (⟨R_Va, "resolved", "(IIIJ)J"⟩, prog_12_method_4_code, 7, (some .long), Y_Va, cd_Va_resolved, 4, 102, 0, 0)
set_option maxRecDepth 100000 in
theorem ok_Va_resolved : am_ok S_c M_Va_resolved := am_ok_ofY (Y := Y_Va) (cd := cd_Va_resolved) (by decide +kernel) rfl rfl rfl oY_Va (by decide +kernel)
def cd_Va_lowOf : List (Option am_I) := [some (.aload_n 0, 1, xN), some (.getfield 15, 3, xF 7 1 2), none, none, some (.iload_n 1, 1, xN), some (.iconst 1, 1, xI (1)), some (.invokevirtual 66, 3, xN), none,
  none, some (.ifCond .eq (15), 3, xJ 24), none, none, some (.aload_n 0, 1, xN), some (.getfield 15, 3, xF 7 1 2), none, none,
  some (.iload_n 1, 1, xN), some (.iconst 1, 1, xI (1)), some (.invokevirtual 76, 3, xN), none, none, some (.goto (4), 3, xJ 25), none, none,
  some (.lconst 0, 1, xL 0), some (.lreturn, 1, xN)]
def M_Va_lowOf : am_Me := (⟨R_Va, "lowOf", "(I)J"⟩, prog_12_method_5_code, 2, (some .long), Y_Va, cd_Va_lowOf, 1, 22, 0, 0)
set_option maxRecDepth 100000 in
theorem ok_Va_lowOf : am_ok S_c M_Va_lowOf := am_ok_ofY (Y := Y_Va) (cd := cd_Va_lowOf) (by decide +kernel) rfl rfl rfl oY_Va (by decide +kernel)
def cd_Va_text : List (Option am_I) := [some (.iload_n 2, 1, xN), some (.lookupswitch (78) #[(8, 43), (14, 45), (31, 52), (37, 59)], 43, xN), none, none, none, none, none, none,
  none, none, none, none, none, none, none, none,
  none, none, none, none, none, none, none, none,
  none, none, none, none, none, none, none, none,
  none, none, none, none, none, none, none, none,
  none, none, none, none, some (.lload_n 3, 1, xN), some (.lreturn, 1, xN), some (.aload_n 0, 1, xN), some (.iconst 2, 1, xI (2)),
  some (.lload_n 3, 1, xN), some (.invokevirtual 128, 3, xN), none, none, some (.lreturn, 1, xN), some (.aload_n 0, 1, xN), some (.iconst 3, 1, xI (3)), some (.lload_n 3, 1, xN),
  some (.invokevirtual 128, 3, xN), none, none, some (.lreturn, 1, xN), some (.aload_n 0, 1, xN), some (.iconst 2, 1, xI (2)), some (.aload_n 0, 1, xN), some (.iconst 4, 1, xI (4)),
  some (.aload_n 0, 1, xN), some (.iload_n 1, 1, xN), some (.iconst 1, 1, xI (1)), some (.invokevirtual 132, 3, xN), none, none, some (.lload_n 3, 1, xN), some (.iconst 4, 1, xI (4)),
  some (.invokevirtual 135, 3, xN), none, none, some (.invokevirtual 128, 3, xN), none, none, some (.lreturn, 1, xN), some (.aload_n 0, 1, xN),
  some (.invokevirtual 124, 3, xN), none, none, some (.lreturn, 1, xN)]
def M_Va_text : am_Me := (⟨R_Va, "text", "(IIJ)J"⟩, prog_12_method_6_code, 5, (some .long), Y_Va, cd_Va_text, 3, 75, 0, 0)
set_option maxRecDepth 100000 in
theorem ok_Va_text : am_ok S_c M_Va_text := am_ok_ofY (Y := Y_Va) (cd := cd_Va_text) (by decide +kernel) rfl rfl rfl oY_Va (by decide +kernel)
def cd_Va_textAt : List (Option am_I) := [some (.aload_n 0, 1, xN), some (.getfield 9, 3, xF 7 0 2), none, none, some (.iload_n 1, 1, xN), some (.lload_n 2, 1, xN), some (.invokevirtual 139, 3, xN), none,
  none, some (.istore 4, 2, xN), none, some (.iload 4, 2, xN), none, some (.iconst (-1), 1, xI (-1)), some (.if_icmp .ne (10), 3, xJ 24), none,
  none, some (.aload_n 0, 1, xN), some (.invokevirtual 124, 3, xN), none, none, some (.goto (6), 3, xJ 27), none, none,
  some (.iload 4, 2, xN), none, some (.i2l, 1, xN), some (.lreturn, 1, xN)]
def M_Va_textAt : am_Me := (⟨R_Va, "textAt", "(IJ)J"⟩, prog_12_method_7_code, 5, (some .long), Y_Va, cd_Va_textAt, 2, 51, 0, 0)
set_option maxRecDepth 100000 in
theorem ok_Va_textAt : am_ok S_c M_Va_textAt := am_ok_ofY (Y := Y_Va) (cd := cd_Va_textAt) (by decide +kernel) rfl rfl rfl oY_Va (by decide +kernel)
def cd_Va_address : List (Option am_I) := [some (.iload_n 2, 1, xN), some (.iconst 1, 1, xI (1)), some (.if_icmp .ne (5), 3, xJ 7), none, none, some (.lload_n 3, 1, xN), some (.lreturn, 1, xN), some (.iload_n 2, 1, xN),
  some (.bipush 27, 2, xI (27)), none, some (.if_icmp .ne (12), 3, xJ 22), none, none, some (.aload_n 0, 1, xN), some (.iload_n 1, 1, xN), some (.lload_n 3, 1, xN),
  some (.invokevirtual 144, 3, xN), none, none, some (.goto (7), 3, xJ 26), none, none, some (.aload_n 0, 1, xN), some (.invokevirtual 124, 3, xN),
  none, none, some (.lreturn, 1, xN)]
def M_Va_address : am_Me := (⟨R_Va, "address", "(IIJ)J"⟩, prog_12_method_8_code, 5, (some .long), Y_Va, cd_Va_address, 3, 78, 0, 0)
set_option maxRecDepth 100000 in
theorem ok_Va_address : am_ok S_c M_Va_address := am_ok_ofY (Y := Y_Va) (cd := cd_Va_address) (by decide +kernel) rfl rfl rfl oY_Va (by decide +kernel)
def cd_Va_listPlace : List (Option am_I) := [some (.iload_n 2, 1, xN), some (.bipush 23, 2, xI (23)), none, some (.if_icmp .ne (5), 3, xJ 8), none, none, some (.lload_n 3, 1, xN), some (.lreturn, 1, xN),
  some (.aload_n 0, 1, xN), some (.iload_n 1, 1, xN), some (.iconst 3, 1, xI (3)), some (.invokevirtual 132, 3, xN), none, none, some (.lstore 5, 2, xN), none,
  some (.iload_n 2, 1, xN), some (.bipush 35, 2, xI (35)), none, some (.if_icmp .ne (19), 3, xJ 38), none, none, some (.lload 5, 2, xN), none,
  some (.aload_n 0, 1, xN), some (.bipush 6, 2, xI (6)), none, some (.lload 5, 2, xN), none, some (.lload_n 3, 1, xN), some (.iconst 4, 1, xI (4)), some (.invokevirtual 135, 3, xN),
  none, none, some (.ladd, 1, xN), some (.goto (7), 3, xJ 42), none, none, some (.aload_n 0, 1, xN), some (.invokevirtual 124, 3, xN),
  none, none, some (.lreturn, 1, xN)]
def M_Va_listPlace : am_Me := (⟨R_Va, "listPlace", "(IIJ)J"⟩, prog_12_method_9_code, 7, (some .long), Y_Va, cd_Va_listPlace, 2, 55, 0, 0)
set_option maxRecDepth 100000 in
theorem ok_Va_listPlace : am_ok S_c M_Va_listPlace := am_ok_ofY (Y := Y_Va) (cd := cd_Va_listPlace) (by decide +kernel) rfl rfl rfl oY_Va (by decide +kernel)
def cd_Va_origin : List (Option am_I) := [some (.iload_n 2, 1, xN), some (.bipush 19, 2, xI (19)), none, some (.if_icmp .eq (8), 3, xJ 11), none, none, some (.aload_n 0, 1, xN), some (.invokevirtual 124, 3, xN),
  none, none, some (.lreturn, 1, xN), some (.aload_n 0, 1, xN), some (.getfield 15, 3, xF 7 1 2), none, none, some (.getfield 147, 3, xF 3 7 2),
  none, none, some (.iload_n 1, 1, xN), some (.iaload, 1, xN), some (.istore 5, 2, xN), none, some (.iload 5, 2, xN), none,
  some (.aload_n 0, 1, xN), some (.getfield 15, 3, xF 7 1 2), none, none, some (.getfield 54, 3, xF 3 10 0), none, none, some (.if_icmp .ge (99), 3, xJ 130),
  none, none, some (.aload_n 0, 1, xN), some (.getfield 15, 3, xF 7 1 2), none, none, some (.getfield 98, 3, xF 3 2 2), none,
  none, some (.iload 5, 2, xN), none, some (.iaload, 1, xN), some (.iload_n 1, 1, xN), some (.if_icmp .ne (85), 3, xJ 130), none, none,
  some (.aload_n 0, 1, xN), some (.getfield 15, 3, xF 7 1 2), none, none, some (.getfield 150, 3, xF 3 0 2), none, none, some (.iload 5, 2, xN),
  none, some (.laload, 1, xN), some (.ldc2_w 153, 3, xL (46)), none, none, some (.lcmp, 1, xN), some (.ifCond .eq (20), 3, xJ 82), none,
  none, some (.aload_n 0, 1, xN), some (.getfield 15, 3, xF 7 1 2), none, none, some (.getfield 150, 3, xF 3 0 2), none, none,
  some (.iload 5, 2, xN), none, some (.laload, 1, xN), some (.ldc2_w 155, 3, xL (29)), none, none, some (.lcmp, 1, xN), some (.ifCond .ne (7), 3, xJ 86),
  none, none, some (.iconst 1, 1, xI (1)), some (.goto (4), 3, xJ 87), none, none, some (.iconst 0, 1, xI (0)), some (.istore 6, 2, xN),
  none, some (.iload 6, 2, xN), none, some (.ifCond .eq (33), 3, xJ 124), none, none, some (.aload_n 0, 1, xN), some (.getfield 15, 3, xF 7 1 2),
  none, none, some (.getfield 157, 3, xF 3 3 2), none, none, some (.iload 5, 2, xN), none, some (.iaload, 1, xN),
  some (.aload_n 0, 1, xN), some (.getfield 15, 3, xF 7 1 2), none, none, some (.getfield 160, 3, xF 3 6 2), none, none, some (.iload_n 1, 1, xN),
  some (.iaload, 1, xN), some (.isub, 1, xN), some (.i2l, 1, xN), some (.lload_n 3, 1, xN), some (.lcmp, 1, xN), some (.ifCond .ne (7), 3, xJ 124), none, none,
  some (.iload 5, 2, xN), none, some (.i2l, 1, xN), some (.lreturn, 1, xN), some (.iinc 5 (1), 3, xI (1)), none, none, some (.goto (-105), 3, xJ 22),
  none, none, some (.aload_n 0, 1, xN), some (.invokevirtual 124, 3, xN), none, none, some (.lreturn, 1, xN)]
def M_Va_origin : am_Me := (⟨R_Va, "origin", "(IIJ)J"⟩, prog_12_method_10_code, 7, (some .long), Y_Va, cd_Va_origin, 1, 20, 0, 0)
set_option maxRecDepth 100000 in
theorem ok_Va_origin : am_ok S_c M_Va_origin := am_ok_ofY (Y := Y_Va) (cd := cd_Va_origin) (by decide +kernel) rfl rfl rfl oY_Va (by decide +kernel)
def cd_Va_readList : List (Option am_I) := [some (.aload_n 0, 1, xN), some (.getfield 15, 3, xF 7 1 2), none, none, some (.getfield 98, 3, xF 3 2 2), none, none, some (.iload_n 1, 1, xN),
  some (.iaload, 1, xN), some (.istore_n 2, 1, xN), some (.aload_n 0, 1, xN), some (.aload_n 0, 1, xN), some (.aload_n 0, 1, xN), some (.getfield 15, 3, xF 7 1 2), none, none,
  some (.getfield 147, 3, xF 3 7 2), none, none, some (.iload_n 2, 1, xN), some (.iaload, 1, xN), some (.invokevirtual 114, 3, xN), none, none,
  some (.putfield 163, 3, xF 7 5 1), none, none, some (.aload_n 0, 1, xN), some (.getfield 9, 3, xF 7 0 2), none, none, some (.aload_n 0, 1, xN),
  some (.getfield 28, 3, xF 7 3 2), none, none, some (.bipush 6, 2, xI (6)), none, some (.aload_n 0, 1, xN), some (.getfield 15, 3, xF 7 1 2), none,
  none, some (.iload_n 1, 1, xN), some (.iconst 3, 1, xI (3)), some (.invokevirtual 76, 3, xN), none, none, some (.invokevirtual 167, 3, xN), none,
  none, some (.iconst 0, 1, xI (0)), some (.istore_n 3, 1, xN), some (.iload_n 3, 1, xN), some (.sipush 3000, 3, xI (3000)), none, none, some (.if_icmp .ge (76), 3, xJ 131),
  none, none, some (.aload_n 0, 1, xN), some (.getfield 35, 3, xF 7 6 3), none, none, some (.ifCond .ne (69), 3, xJ 131), none,
  none, some (.aload_n 0, 1, xN), some (.getfield 28, 3, xF 7 3 2), none, none, some (.iconst 1, 1, xI (1)), some (.invokevirtual 171, 3, xN), none,
  none, some (.l2i, 1, xN), some (.istore 4, 2, xN), none, some (.iload 4, 2, xN), none, some (.ifCond .ne (14), 3, xJ 92), none,
  none, some (.aload_n 0, 1, xN), some (.getfield 28, 3, xF 7 3 2), none, none, some (.getfield 174, 3, xF 2 3 3), none, none,
  some (.ifCond .ne (4), 3, xJ 92), none, none, some (.return_, 1, xN), some (.aload_n 0, 1, xN), some (.iload_n 2, 1, xN), some (.iload 4, 2, xN), none,
  some (.invokevirtual 175, 3, xN), none, none, some (.aload_n 0, 1, xN), some (.aload_n 0, 1, xN), some (.getfield 35, 3, xF 7 6 3), none, none,
  some (.ifCond .ne (13), 3, xJ 117), none, none, some (.aload_n 0, 1, xN), some (.getfield 28, 3, xF 7 3 2), none, none, some (.getfield 174, 3, xF 2 3 3),
  none, none, some (.ifCond .eq (7), 3, xJ 121), none, none, some (.iconst 1, 1, xI (1)), some (.goto (4), 3, xJ 122), none,
  none, some (.iconst 0, 1, xI (0)), some (.putfield 35, 3, xF 7 6 3), none, none, some (.iinc 3 (1), 3, xI (1)), none, none,
  some (.goto (-77), 3, xJ 51), none, none, some (.return_, 1, xN)]
def M_Va_readList : am_Me := (⟨R_Va, "readList", "(I)V"⟩, prog_12_method_11_code, 5, none, Y_Va, cd_Va_readList, 5, 126, 0, 0)
set_option maxRecDepth 100000 in
theorem ok_Va_readList : am_ok S_c M_Va_readList := am_ok_ofY (Y := Y_Va) (cd := cd_Va_readList) (by decide +kernel) rfl rfl rfl oY_Va (by decide +kernel)
def cd_Va_readPiece : List (Option am_I) := [some (.iload_n 2, 1, xN), some (.iconst 1, 1, xI (1)), some (.if_icmp .ne (22), 3, xJ 24), none, none, some (.aload_n 0, 1, xN), some (.aload_n 0, 1, xN), some (.iload_n 1, 1, xN),
  some (.aload_n 0, 1, xN), some (.getfield 28, 3, xF 7 3 2), none, none, some (.invokevirtual 179, 3, xN), none, none, some (.invokevirtual 144, 3, xN),
  none, none, some (.putfield 163, 3, xF 7 5 1), none, none, some (.goto (134), 3, xJ 155), none, none,
  some (.iload_n 2, 1, xN), some (.iconst 5, 1, xI (5)), some (.if_icmp .ne (19), 3, xJ 45), none, none, some (.aload_n 0, 1, xN), some (.aload_n 0, 1, xN), some (.getfield 28, 3, xF 7 3 2),
  none, none, some (.bipush 8, 2, xI (8)), none, some (.invokevirtual 171, 3, xN), none, none, some (.putfield 163, 3, xF 7 5 1),
  none, none, some (.goto (113), 3, xJ 155), none, none, some (.iload_n 2, 1, xN), some (.iconst 4, 1, xI (4)), some (.if_icmp .ne (36), 3, xJ 83),
  none, none, some (.aload_n 0, 1, xN), some (.getfield 163, 3, xF 7 5 1), none, none, some (.aload_n 0, 1, xN), some (.getfield 28, 3, xF 7 3 2),
  none, none, some (.invokevirtual 179, 3, xN), none, none, some (.ladd, 1, xN), some (.lstore_n 3, 1, xN), some (.aload_n 0, 1, xN),
  some (.lload_n 3, 1, xN), some (.aload_n 0, 1, xN), some (.getfield 163, 3, xF 7 5 1), none, none, some (.aload_n 0, 1, xN), some (.getfield 28, 3, xF 7 3 2), none,
  none, some (.invokevirtual 179, 3, xN), none, none, some (.ladd, 1, xN), some (.invokevirtual 80, 3, xN), none, none,
  some (.goto (75), 3, xJ 155), none, none, some (.iload_n 2, 1, xN), some (.iconst 2, 1, xI (2)), some (.if_icmp .eq (20), 3, xJ 105), none, none,
  some (.iload_n 2, 1, xN), some (.iconst 3, 1, xI (3)), some (.if_icmp .eq (15), 3, xJ 105), none, none, some (.iload_n 2, 1, xN), some (.bipush 6, 2, xI (6)), none,
  some (.if_icmp .eq (9), 3, xJ 105), none, none, some (.iload_n 2, 1, xN), some (.bipush 7, 2, xI (7)), none, some (.if_icmp .ne (48), 3, xJ 150), none,
  none, some (.iload_n 2, 1, xN), some (.iconst 4, 1, xI (4)), some (.if_icmp .ge (18), 3, xJ 125), none, none, some (.aload_n 0, 1, xN), some (.iload_n 1, 1, xN),
  some (.aload_n 0, 1, xN), some (.getfield 28, 3, xF 7 3 2), none, none, some (.invokevirtual 179, 3, xN), none, none, some (.invokevirtual 144, 3, xN),
  none, none, some (.goto (12), 3, xJ 134), none, none, some (.aload_n 0, 1, xN), some (.getfield 28, 3, xF 7 3 2), none,
  none, some (.bipush 8, 2, xI (8)), none, some (.invokevirtual 171, 3, xN), none, none, some (.lstore_n 3, 1, xN), some (.aload_n 0, 1, xN),
  some (.lload_n 3, 1, xN), some (.aload_n 0, 1, xN), some (.iload_n 1, 1, xN), some (.iload_n 2, 1, xN), some (.lload_n 3, 1, xN), some (.invokevirtual 182, 3, xN), none, none,
  some (.invokevirtual 80, 3, xN), none, none, some (.goto (8), 3, xJ 155), none, none, some (.aload_n 0, 1, xN), some (.invokevirtual 124, 3, xN),
  none, none, some (.pop2, 1, xN), some (.return_, 1, xN)]
def M_Va_readPiece : am_Me := (⟨R_Va, "readPiece", "(II)V"⟩, prog_12_method_12_code, 5, none, Y_Va, cd_Va_readPiece, 4, 102, 0, 0)
set_option maxRecDepth 100000 in
theorem ok_Va_readPiece : am_ok S_c M_Va_readPiece := am_ok_ofY (Y := Y_Va) (cd := cd_Va_readPiece) (by decide +kernel) rfl rfl rfl oY_Va (by decide +kernel)
def cd_Va_rangeEnd : List (Option am_I) := [some (.iload_n 2, 1, xN), some (.iconst 2, 1, xI (2)), some (.if_icmp .ne (16), 3, xJ 18), none, none, some (.aload_n 0, 1, xN), some (.iload_n 1, 1, xN), some (.aload_n 0, 1, xN),
  some (.getfield 28, 3, xF 7 3 2), none, none, some (.invokevirtual 179, 3, xN), none, none, some (.invokevirtual 144, 3, xN), none,
  none, some (.lreturn, 1, xN), some (.iload_n 2, 1, xN), some (.bipush 6, 2, xI (6)), none, some (.if_icmp .ne (15), 3, xJ 36), none, none,
  some (.aload_n 0, 1, xN), some (.getfield 28, 3, xF 7 3 2), none, none, some (.bipush 8, 2, xI (8)), none, some (.invokevirtual 171, 3, xN), none,
  none, some (.goto (12), 3, xJ 45), none, none, some (.lload_n 3, 1, xN), some (.aload_n 0, 1, xN), some (.getfield 28, 3, xF 7 3 2), none,
  none, some (.invokevirtual 179, 3, xN), none, none, some (.ladd, 1, xN), some (.lreturn, 1, xN)]
def M_Va_rangeEnd : am_Me := (⟨R_Va, "rangeEnd", "(IIJ)J"⟩, prog_12_method_13_code, 5, (some .long), Y_Va, cd_Va_rangeEnd, 3, 78, 0, 0)
set_option maxRecDepth 100000 in
theorem ok_Va_rangeEnd : am_ok S_c M_Va_rangeEnd := am_ok_ofY (Y := Y_Va) (cd := cd_Va_rangeEnd) (by decide +kernel) rfl rfl rfl oY_Va (by decide +kernel)
def cd_Va_addRange : List (Option am_I) := [some (.aload_n 0, 1, xN), some (.getfield 19, 3, xF 7 2 2), none, none, some (.lload_n 1, 1, xN), some (.lload_n 3, 1, xN), some (.invokevirtual 185, 3, xN), none,
  none, some (.ifCond .ne (8), 3, xJ 17), none, none, some (.aload_n 0, 1, xN), some (.invokevirtual 124, 3, xN), none, none,
  some (.pop2, 1, xN), some (.return_, 1, xN)]
def M_Va_addRange : am_Me := (⟨R_Va, "addRange", "(JJ)V"⟩, prog_12_method_14_code, 5, none, Y_Va, cd_Va_addRange, 1, 24, 0, 0)
set_option maxRecDepth 100000 in
theorem ok_Va_addRange : am_ok S_c M_Va_addRange := am_ok_ofY (Y := Y_Va) (cd := cd_Va_addRange) (by decide +kernel) rfl rfl rfl oY_Va (by decide +kernel)
def cd_Va_addressAt : List (Option am_I) := [some (.aload_n 0, 1, xN), some (.iconst 5, 1, xI (5)), some (.aload_n 0, 1, xN), some (.iload_n 1, 1, xN), some (.iconst 2, 1, xI (2)), some (.invokevirtual 132, 3, xN), none, none,
  some (.lload_n 2, 1, xN), some (.bipush 8, 2, xI (8)), none, some (.invokevirtual 135, 3, xN), none, none, some (.lreturn, 1, xN)]
def M_Va_addressAt : am_Me := (⟨R_Va, "addressAt", "(IJ)J"⟩, prog_12_method_15_code, 4, (some .long), Y_Va, cd_Va_addressAt, 2, 55, 0, 0)
set_option maxRecDepth 100000 in
theorem ok_Va_addressAt : am_ok S_c M_Va_addressAt := am_ok_ofY (Y := Y_Va) (cd := cd_Va_addressAt) (by decide +kernel) rfl rfl rfl oY_Va (by decide +kernel)
def cd_Va_baseOf : List (Option am_I) := [some (.aload_n 0, 1, xN), some (.getfield 15, 3, xF 7 1 2), none, none, some (.getfield 189, 3, xF 3 9 2), none, none, some (.iload_n 1, 1, xN),
  some (.iconst 4, 1, xI (4)), some (.imul, 1, xN), some (.iload_n 2, 1, xN), some (.iadd, 1, xN), some (.laload, 1, xN), some (.lreturn, 1, xN)]
def M_Va_baseOf : am_Me := (⟨R_Va, "baseOf", "(II)J"⟩, prog_12_method_16_code, 3, (some .long), Y_Va, cd_Va_baseOf, 0, 0, 0, 0)
set_option maxRecDepth 100000 in
theorem ok_Va_baseOf : am_ok S_c M_Va_baseOf := am_ok_ofY (Y := Y_Va) (cd := cd_Va_baseOf) (by decide +kernel) rfl rfl rfl oY_Va (by decide +kernel)
def cd_Va_numberAt : List (Option am_I) := [some (.lload 4, 2, xN), none, some (.lconst 0, 1, xL 0), some (.lcmp, 1, xN), some (.ifCond .lt (12), 3, xJ 16), none, none, some (.lload 4, 2, xN),
  none, some (.ldc2_w 192, 3, xL (3000)), none, none, some (.lcmp, 1, xN), some (.ifCond .le (8), 3, xJ 21), none, none,
  some (.aload_n 0, 1, xN), some (.invokevirtual 124, 3, xN), none, none, some (.lreturn, 1, xN), some (.aload_n 0, 1, xN), some (.getfield 9, 3, xF 7 0 2), none,
  none, some (.aload_n 0, 1, xN), some (.getfield 32, 3, xF 7 4 2), none, none, some (.iload_n 1, 1, xN), some (.lload_n 2, 1, xN), some (.lload 4, 2, xN),
  none, some (.iload 6, 2, xN), none, some (.i2l, 1, xN), some (.lmul, 1, xN), some (.ladd, 1, xN), some (.invokevirtual 167, 3, xN), none,
  none, some (.aload_n 0, 1, xN), some (.getfield 32, 3, xF 7 4 2), none, none, some (.iload 6, 2, xN), none, some (.invokevirtual 171, 3, xN),
  none, none, some (.lstore 7, 2, xN), none, some (.aload_n 0, 1, xN), some (.aload_n 0, 1, xN), some (.getfield 35, 3, xF 7 6 3), none,
  none, some (.ifCond .ne (13), 3, xJ 70), none, none, some (.aload_n 0, 1, xN), some (.getfield 32, 3, xF 7 4 2), none, none,
  some (.getfield 174, 3, xF 2 3 3), none, none, some (.ifCond .eq (7), 3, xJ 74), none, none, some (.iconst 1, 1, xI (1)), some (.goto (4), 3, xJ 75),
  none, none, some (.iconst 0, 1, xI (0)), some (.putfield 35, 3, xF 7 6 3), none, none, some (.lload 7, 2, xN), none,
  some (.lreturn, 1, xN)]
def M_Va_numberAt : am_Me := (⟨R_Va, "numberAt", "(IJJI)J"⟩, prog_12_method_17_code, 9, (some .long), Y_Va, cd_Va_numberAt, 1, 27, 0, 0)
set_option maxRecDepth 100000 in
theorem ok_Va_numberAt : am_ok S_c M_Va_numberAt := am_ok_ofY (Y := Y_Va) (cd := cd_Va_numberAt) (by decide +kernel) rfl rfl rfl oY_Va (by decide +kernel)
def cd_Va_wrong : List (Option am_I) := [some (.aload_n 0, 1, xN), some (.iconst 1, 1, xI (1)), some (.putfield 35, 3, xF 7 6 3), none, none, some (.lconst 0, 1, xL 0), some (.lreturn, 1, xN)]
def M_Va_wrong : am_Me := (⟨R_Va, "wrong", "()J"⟩, prog_12_method_18_code, 1, (some .long), Y_Va, cd_Va_wrong, 0, 0, 0, 0)
set_option maxRecDepth 100000 in
theorem ok_Va_wrong : am_ok S_c M_Va_wrong := am_ok_ofY (Y := Y_Va) (cd := cd_Va_wrong) (by decide +kernel) rfl rfl rfl oY_Va (by decide +kernel)
def cd_Ro_forgetAll : List (Option am_I) := [some (.aload_n 0, 1, xN), some (.iconst 0, 1, xI (0)), some (.putfield 38, 3, xF 8 8 0), none, none, some (.return_, 1, xN)]
def M_Ro_forgetAll : am_Me := (⟨R_Ro, "forgetAll", "()V"⟩, prog_8_method_2_code, 1, none, Y_Ro, cd_Ro_forgetAll, 0, 0, 0, 0)
set_option maxRecDepth 100000 in
theorem ok_Ro_forgetAll : am_ok S_c M_Ro_forgetAll := am_ok_ofY (Y := Y_Ro) (cd := cd_Ro_forgetAll) (by decide +kernel) rfl rfl rfl oY_Ro (by decide +kernel)
def cd_Ro_begin : List (Option am_I) := [some (.aload_n 0, 1, xN), some (.getfield 26, 3, xF 8 4 2), none, none, some (.iload_n 1, 1, xN), some (.aload_n 0, 1, xN), some (.getfield 38, 3, xF 8 8 0), none,
  none, some (.iastore, 1, xN), some (.aload_n 0, 1, xN), some (.getfield 32, 3, xF 8 6 2), none, none, some (.iload_n 1, 1, xN), some (.iconst 0, 1, xI (0)),
  some (.iastore, 1, xN), some (.return_, 1, xN)]
def M_Ro_begin : am_Me := (⟨R_Ro, "begin", "(I)V"⟩, prog_8_method_3_code, 2, none, Y_Ro, cd_Ro_begin, 0, 0, 0, 0)
set_option maxRecDepth 100000 in
theorem ok_Ro_begin : am_ok S_c M_Ro_begin := am_ok_ofY (Y := Y_Ro) (cd := cd_Ro_begin) (by decide +kernel) rfl rfl rfl oY_Ro (by decide +kernel)
def cd_Ro_end : List (Option am_I) := [some (.aload_n 0, 1, xN), some (.getfield 29, 3, xF 8 5 2), none, none, some (.iload_n 1, 1, xN), some (.aload_n 0, 1, xN), some (.getfield 38, 3, xF 8 8 0), none,
  none, some (.iastore, 1, xN), some (.return_, 1, xN)]
def M_Ro_end : am_Me := (⟨R_Ro, "end", "(I)V"⟩, prog_8_method_4_code, 2, none, Y_Ro, cd_Ro_end, 0, 0, 0, 0)
set_option maxRecDepth 100000 in
theorem ok_Ro_end : am_ok S_c M_Ro_end := am_ok_ofY (Y := Y_Ro) (cd := cd_Ro_end) (by decide +kernel) rfl rfl rfl oY_Ro (by decide +kernel)
def cd_Ro_add : List (Option am_I) := [some (.aload_n 0, 1, xN), some (.getfield 38, 3, xF 8 8 0), none, none, some (.sipush 400, 3, xI (400)), none, none, some (.if_icmp .ne (5), 3, xJ 12),
  none, none, some (.iconst 0, 1, xI (0)), some (.ireturn, 1, xN), some (.aload_n 0, 1, xN), some (.getfield 9, 3, xF 8 0 2), none, none,
  some (.aload_n 0, 1, xN), some (.getfield 38, 3, xF 8 8 0), none, none, some (.lload_n 1, 1, xN), some (.lastore, 1, xN), some (.aload_n 0, 1, xN), some (.getfield 15, 3, xF 8 1 2),
  none, none, some (.aload_n 0, 1, xN), some (.getfield 38, 3, xF 8 8 0), none, none, some (.lload_n 3, 1, xN), some (.lastore, 1, xN),
  some (.aload_n 0, 1, xN), some (.getfield 18, 3, xF 8 2 2), none, none, some (.aload_n 0, 1, xN), some (.getfield 38, 3, xF 8 8 0), none, none,
  some (.iload 5, 2, xN), none, some (.iastore, 1, xN), some (.aload_n 0, 1, xN), some (.getfield 22, 3, xF 8 3 2), none, none, some (.aload_n 0, 1, xN),
  some (.getfield 38, 3, xF 8 8 0), none, none, some (.iload 6, 2, xN), none, some (.bastore, 1, xJ 3), some (.aload_n 0, 1, xN), some (.dup, 1, xN),
  some (.getfield 38, 3, xF 8 8 0), none, none, some (.iconst 1, 1, xI (1)), some (.iadd, 1, xN), some (.putfield 38, 3, xF 8 8 0), none, none,
  some (.iconst 1, 1, xI (1)), some (.ireturn, 1, xN)]
def M_Ro_add : am_Me := (⟨R_Ro, "add", "(JJIZ)Z"⟩, prog_8_method_5_code, 7, (some .boolean), Y_Ro, cd_Ro_add, 0, 0, 0, 0)
set_option maxRecDepth 100000 in
theorem ok_Ro_add : am_ok S_c M_Ro_add := am_ok_ofY (Y := Y_Ro) (cd := cd_Ro_add) (by decide +kernel) rfl rfl rfl oY_Ro (by decide +kernel)
def cd_Ro_addFile : List (Option am_I) := [some (.aload_n 0, 1, xN), some (.getfield 35, 3, xF 8 7 2), none, none, some (.iload_n 1, 1, xN), some (.bipush 30, 2, xI (30)), none, some (.imul, 1, xN),
  some (.aload_n 0, 1, xN), some (.getfield 32, 3, xF 8 6 2), none, none, some (.iload_n 1, 1, xN), some (.iaload, 1, xN), some (.iadd, 1, xN), some (.iload_n 2, 1, xN),
  some (.iastore, 1, xN), some (.aload_n 0, 1, xN), some (.getfield 32, 3, xF 8 6 2), none, none, some (.iload_n 1, 1, xN), some (.dup2, 1, xN), some (.iaload, 1, xN),
  some (.iconst 1, 1, xI (1)), some (.iadd, 1, xN), some (.iastore, 1, xN), some (.return_, 1, xN)]
def M_Ro_addFile : am_Me := (⟨R_Ro, "addFile", "(II)V"⟩, prog_8_method_6_code, 3, none, Y_Ro, cd_Ro_addFile, 0, 0, 0, 0)
set_option maxRecDepth 100000 in
theorem ok_Ro_addFile : am_ok S_c M_Ro_addFile := am_ok_ofY (Y := Y_Ro) (cd := cd_Ro_addFile) (by decide +kernel) rfl rfl rfl oY_Ro (by decide +kernel)
def cd_Ro_nameOfFile : List (Option am_I) := [some (.lload_n 2, 1, xN), some (.lconst 0, 1, xL 0), some (.lcmp, 1, xN), some (.ifCond .lt (30), 3, xJ 33), none, none, some (.lload_n 2, 1, xN), some (.aload_n 0, 1, xN),
  some (.getfield 32, 3, xF 8 6 2), none, none, some (.iload_n 1, 1, xN), some (.iaload, 1, xN), some (.i2l, 1, xN), some (.lcmp, 1, xN), some (.ifCond .ge (18), 3, xJ 33),
  none, none, some (.aload_n 0, 1, xN), some (.getfield 35, 3, xF 8 7 2), none, none, some (.iload_n 1, 1, xN), some (.bipush 30, 2, xI (30)),
  none, some (.imul, 1, xN), some (.lload_n 2, 1, xN), some (.l2i, 1, xN), some (.iadd, 1, xN), some (.iaload, 1, xN), some (.goto (4), 3, xJ 34), none,
  none, some (.iconst (-1), 1, xI (-1)), some (.ireturn, 1, xN)]
def M_Ro_nameOfFile : am_Me := (⟨R_Ro, "nameOfFile", "(IJ)I"⟩, prog_8_method_7_code, 4, (some .int), Y_Ro, cd_Ro_nameOfFile, 0, 0, 0, 0)
set_option maxRecDepth 100000 in
theorem ok_Ro_nameOfFile : am_ok S_c M_Ro_nameOfFile := am_ok_ofY (Y := Y_Ro) (cd := cd_Ro_nameOfFile) (by decide +kernel) rfl rfl rfl oY_Ro (by decide +kernel)
def cd_Ro_rowOf : List (Option am_I) := [some (.aload_n 0, 1, xN), some (.getfield 26, 3, xF 8 4 2), none, none, some (.iload_n 1, 1, xN), some (.iaload, 1, xN), some (.istore 4, 2, xN), none,
  some (.iload 4, 2, xN), none, some (.istore 5, 2, xN), none, some (.iload 5, 2, xN), none, some (.aload_n 0, 1, xN), some (.getfield 29, 3, xF 8 5 2),
  none, none, some (.iload_n 1, 1, xN), some (.iaload, 1, xN), some (.if_icmp .ge (63), 3, xJ 83), none, none, some (.aload_n 0, 1, xN),
  some (.getfield 22, 3, xF 8 3 2), none, none, some (.iload 5, 2, xN), none, some (.baload, 1, xJ 3), some (.ifCond .eq (47), 3, xJ 77), none,
  none, some (.lload_n 2, 1, xN), some (.aload_n 0, 1, xN), some (.getfield 9, 3, xF 8 0 2), none, none, some (.iload 4, 2, xN), none,
  some (.laload, 1, xN), some (.invokestatic 42, 3, xN), none, none, some (.ifCond .ne (27), 3, xJ 71), none, none, some (.lload_n 2, 1, xN),
  some (.aload_n 0, 1, xN), some (.getfield 9, 3, xF 8 0 2), none, none, some (.iload 5, 2, xN), none, some (.laload, 1, xN), some (.invokestatic 42, 3, xN),
  none, none, some (.ifCond .eq (13), 3, xJ 71), none, none, some (.aload_n 0, 1, xN), some (.iload 4, 2, xN), none,
  some (.iload 5, 2, xN), none, some (.lload_n 2, 1, xN), some (.invokevirtual 46, 3, xN), none, none, some (.ireturn, 1, xN), some (.iload 5, 2, xN),
  none, some (.iconst 1, 1, xI (1)), some (.iadd, 1, xN), some (.istore 4, 2, xN), none, some (.iinc 5 (1), 3, xI (1)), none, none,
  some (.goto (-68), 3, xJ 12), none, none, some (.iconst (-1), 1, xI (-1)), some (.ireturn, 1, xN)]
def M_Ro_rowOf : am_Me := (⟨R_Ro, "rowOf", "(IJ)I"⟩, prog_8_method_8_code, 6, (some .int), Y_Ro, cd_Ro_rowOf, 2, 48, 0, 0)
set_option maxRecDepth 100000 in
theorem ok_Ro_rowOf : am_ok S_c M_Ro_rowOf := am_ok_ofY (Y := Y_Ro) (cd := cd_Ro_rowOf) (by decide +kernel) rfl rfl rfl oY_Ro (by decide +kernel)
def cd_Ro_lastNotAbove : List (Option am_I) := [some (.iload_n 2, 1, xN), some (.iconst 1, 1, xI (1)), some (.isub, 1, xN), some (.istore 5, 2, xN), none, some (.iload 5, 2, xN), none, some (.iload_n 1, 1, xN),
  some (.if_icmp .lt (26), 3, xJ 34), none, none, some (.lload_n 3, 1, xN), some (.aload_n 0, 1, xN), some (.getfield 9, 3, xF 8 0 2), none, none,
  some (.iload 5, 2, xN), none, some (.laload, 1, xN), some (.invokestatic 42, 3, xN), none, none, some (.ifCond .ne (6), 3, xJ 28), none,
  none, some (.iload 5, 2, xN), none, some (.ireturn, 1, xN), some (.iinc 5 (-1), 3, xI (-1)), none, none, some (.goto (-26), 3, xJ 5),
  none, none, some (.iconst (-1), 1, xI (-1)), some (.ireturn, 1, xN)]
def M_Ro_lastNotAbove : am_Me := (⟨R_Ro, "lastNotAbove", "(IIJ)I"⟩, prog_8_method_9_code, 6, (some .int), Y_Ro, cd_Ro_lastNotAbove, 1, 23, 0, 0)
set_option maxRecDepth 100000 in
theorem ok_Ro_lastNotAbove : am_ok S_c M_Ro_lastNotAbove := am_ok_ofY (Y := Y_Ro) (cd := cd_Ro_lastNotAbove) (by decide +kernel) rfl rfl rfl oY_Ro (by decide +kernel)
def cd_Li_read : List (Option am_I) := [some (.aload_n 0, 1, xN), some (.getfield 27, 3, xF 9 2 2), none, none, some (.invokevirtual 40, 3, xN), none, none, some (.iconst 0, 1, xI (0)),
  some (.istore_n 1, 1, xN), some (.iload_n 1, 1, xN), some (.aload_n 0, 1, xN), some (.getfield 23, 3, xF 9 1 2), none, none, some (.getfield 45, 3, xF 3 11 0), none,
  none, some (.if_icmp .ge (62), 3, xJ 79), none, none, some (.aload_n 0, 1, xN), some (.getfield 27, 3, xF 9 2 2), none, none,
  some (.iload_n 1, 1, xN), some (.invokevirtual 51, 3, xN), none, none, some (.iload_n 1, 1, xN), some (.iconst 4, 1, xI (4)), some (.imul, 1, xN), some (.iconst 0, 1, xI (0)),
  some (.iadd, 1, xN), some (.istore_n 2, 1, xN), some (.aload_n 0, 1, xN), some (.getfield 23, 3, xF 9 1 2), none, none, some (.getfield 55, 3, xF 3 8 2), none,
  none, some (.iload_n 2, 1, xN), some (.iaload, 1, xN), some (.ifCond .eq (22), 3, xJ 65), none, none, some (.aload_n 0, 1, xN), some (.iload_n 1, 1, xN),
  some (.aload_n 0, 1, xN), some (.getfield 23, 3, xF 9 1 2), none, none, some (.getfield 58, 3, xF 3 9 2), none, none, some (.iload_n 2, 1, xN),
  some (.laload, 1, xN), some (.invokevirtual 62, 3, xN), none, none, some (.ifCond .ne (5), 3, xJ 65), none, none, some (.iconst 0, 1, xI (0)),
  some (.ireturn, 1, xN), some (.aload_n 0, 1, xN), some (.getfield 27, 3, xF 9 2 2), none, none, some (.iload_n 1, 1, xN), some (.invokevirtual 66, 3, xN), none,
  none, some (.iinc 1 (1), 3, xI (1)), none, none, some (.goto (-67), 3, xJ 9), none, none, some (.iconst 1, 1, xI (1)),
  some (.ireturn, 1, xN)]
def M_Li_read : am_Me := (⟨R_Li, "read", "()Z"⟩, prog_6_method_2_code, 3, (some .boolean), Y_Li, cd_Li_read, 6, 147, 0, 0)
set_option maxRecDepth 100000 in
theorem ok_Li_read : am_ok S_c M_Li_read := am_ok_ofY (Y := Y_Li) (cd := cd_Li_read) (by decide +kernel) rfl rfl rfl oY_Li (by decide +kernel)
def cd_Li_readTable : List (Option am_I) := [some (.aload_n 0, 1, xN), some (.getfield 19, 3, xF 9 0 2), none, none, some (.aload_n 0, 1, xN), some (.getfield 36, 3, xF 9 4 2), none, none,
  some (.bipush 7, 2, xI (7)), none, some (.lload_n 2, 1, xN), some (.invokevirtual 69, 3, xN), none, none, some (.aload_n 0, 1, xN), some (.getfield 36, 3, xF 9 4 2),
  none, none, some (.iconst 4, 1, xI (4)), some (.invokevirtual 75, 3, xN), none, none, some (.lstore 4, 2, xN), none,
  some (.aload_n 0, 1, xN), some (.getfield 36, 3, xF 9 4 2), none, none, some (.getfield 79, 3, xF 2 3 3), none, none, some (.ifCond .ne (25), 3, xJ 56),
  none, none, some (.lload 4, 2, xN), none, some (.aload_n 0, 1, xN), some (.getfield 36, 3, xF 9 4 2), none, none,
  some (.getfield 83, 3, xF 2 2 0), none, none, some (.aload_n 0, 1, xN), some (.getfield 36, 3, xF 9 4 2), none, none, some (.getfield 85, 3, xF 2 1 0),
  none, none, some (.isub, 1, xN), some (.i2l, 1, xN), some (.lcmp, 1, xN), some (.ifCond .le (5), 3, xJ 58), none, none,
  some (.iconst 0, 1, xI (0)), some (.ireturn, 1, xN), some (.aload_n 0, 1, xN), some (.getfield 36, 3, xF 9 4 2), none, none, some (.aload_n 0, 1, xN), some (.getfield 36, 3, xF 9 4 2),
  none, none, some (.getfield 85, 3, xF 2 1 0), none, none, some (.lload 4, 2, xN), none, some (.l2i, 1, xN),
  some (.iadd, 1, xN), some (.putfield 83, 3, xF 2 2 0), none, none, some (.aload_n 0, 1, xN), some (.getfield 36, 3, xF 9 4 2), none, none,
  some (.iconst 2, 1, xI (2)), some (.invokevirtual 75, 3, xN), none, none, some (.ldc2_w 88, 3, xL (5)), none, none, some (.lcmp, 1, xN),
  some (.ifCond .ne (31), 3, xJ 119), none, none, some (.aload_n 0, 1, xN), some (.getfield 36, 3, xF 9 4 2), none, none, some (.iconst 1, 1, xI (1)),
  some (.invokevirtual 75, 3, xN), none, none, some (.ldc2_w 90, 3, xL (8)), none, none, some (.lcmp, 1, xN), some (.ifCond .ne (16), 3, xJ 119),
  none, none, some (.aload_n 0, 1, xN), some (.getfield 36, 3, xF 9 4 2), none, none, some (.iconst 1, 1, xI (1)), some (.invokevirtual 75, 3, xN),
  none, none, some (.lconst 0, 1, xL 0), some (.lcmp, 1, xN), some (.ifCond .eq (5), 3, xJ 121), none, none, some (.iconst 0, 1, xI (0)),
  some (.ireturn, 1, xN), some (.aload_n 0, 1, xN), some (.getfield 36, 3, xF 9 4 2), none, none, some (.iconst 4, 1, xI (4)), some (.invokevirtual 75, 3, xN), none,
  none, some (.lstore 6, 2, xN), none, some (.aload_n 0, 1, xN), some (.getfield 36, 3, xF 9 4 2), none, none, some (.getfield 85, 3, xF 2 1 0),
  none, none, some (.i2l, 1, xN), some (.lload 6, 2, xN), none, some (.ladd, 1, xN), some (.lstore 8, 2, xN), none,
  some (.aload_n 0, 1, xN), some (.invokevirtual 92, 3, xN), none, none, some (.ifCond .eq (25), 3, xJ 173), none, none, some (.aload_n 0, 1, xN),
  some (.iload_n 1, 1, xN), some (.iconst 0, 1, xI (0)), some (.invokevirtual 96, 3, xN), none, none, some (.ifCond .eq (16), 3, xJ 173), none, none,
  some (.aload_n 0, 1, xN), some (.iload_n 1, 1, xN), some (.iconst 1, 1, xI (1)), some (.invokevirtual 96, 3, xN), none, none, some (.ifCond .eq (7), 3, xJ 173), none,
  none, some (.iconst 1, 1, xI (1)), some (.goto (4), 3, xJ 174), none, none, some (.iconst 0, 1, xI (0)), some (.istore 10, 2, xN), none,
  some (.iload 10, 2, xN), none, some (.ifCond .eq (31), 3, xJ 209), none, none, some (.lload 8, 2, xN), none, some (.aload_n 0, 1, xN),
  some (.getfield 36, 3, xF 9 4 2), none, none, some (.getfield 85, 3, xF 2 1 0), none, none, some (.i2l, 1, xN), some (.lcmp, 1, xN),
  some (.ifCond .lt (17), 3, xJ 209), none, none, some (.lload 8, 2, xN), none, some (.aload_n 0, 1, xN), some (.getfield 36, 3, xF 9 4 2), none,
  none, some (.getfield 83, 3, xF 2 2 0), none, none, some (.i2l, 1, xN), some (.lcmp, 1, xN), some (.ifCond .le (5), 3, xJ 211), none,
  none, some (.iconst 0, 1, xI (0)), some (.ireturn, 1, xN), some (.aload_n 0, 1, xN), some (.getfield 36, 3, xF 9 4 2), none, none, some (.lload 8, 2, xN),
  none, some (.l2i, 1, xN), some (.putfield 85, 3, xF 2 1 0), none, none, some (.aload_n 0, 1, xN), some (.invokevirtual 100, 3, xN), none,
  none, some (.ireturn, 1, xN)]
def M_Li_readTable : am_Me := (⟨R_Li, "readTable", "(IJ)Z"⟩, prog_6_method_3_code, 11, (some .boolean), Y_Li, cd_Li_readTable, 5, 117, 0, 0)
set_option maxRecDepth 100000 in
theorem ok_Li_readTable : am_ok S_c M_Li_readTable := am_ok_ofY (Y := Y_Li) (cd := cd_Li_readTable) (by decide +kernel) rfl rfl rfl oY_Li (by decide +kernel)
def cd_Li_readHead : List (Option am_I) := [some (.aload_n 0, 1, xN), some (.getfield 36, 3, xF 9 4 2), none, none, some (.iconst 1, 1, xI (1)), some (.invokevirtual 75, 3, xN), none, none,
  some (.lconst 1, 1, xL 1), some (.lcmp, 1, xN), some (.ifCond .ne (16), 3, xJ 26), none, none, some (.aload_n 0, 1, xN), some (.getfield 36, 3, xF 9 4 2), none,
  none, some (.iconst 1, 1, xI (1)), some (.invokevirtual 75, 3, xN), none, none, some (.lconst 1, 1, xL 1), some (.lcmp, 1, xN), some (.ifCond .eq (5), 3, xJ 28),
  none, none, some (.iconst 0, 1, xI (0)), some (.ireturn, 1, xN), some (.aload_n 0, 1, xN), some (.getfield 36, 3, xF 9 4 2), none, none,
  some (.lconst 1, 1, xL 1), some (.invokevirtual 103, 3, xN), none, none, some (.aload_n 0, 1, xN), some (.aload_n 0, 1, xN), some (.getfield 36, 3, xF 9 4 2), none,
  none, some (.iconst 1, 1, xI (1)), some (.invokevirtual 75, 3, xN), none, none, some (.l2i, 1, xN), some (.i2b, 1, xN), some (.putfield 107, 3, xF 9 8 0),
  none, none, some (.aload_n 0, 1, xN), some (.aload_n 0, 1, xN), some (.getfield 36, 3, xF 9 4 2), none, none, some (.iconst 1, 1, xI (1)),
  some (.invokevirtual 75, 3, xN), none, none, some (.l2i, 1, xN), some (.putfield 110, 3, xF 9 9 0), none, none, some (.aload_n 0, 1, xN),
  some (.aload_n 0, 1, xN), some (.getfield 36, 3, xF 9 4 2), none, none, some (.iconst 1, 1, xI (1)), some (.invokevirtual 75, 3, xN), none, none,
  some (.l2i, 1, xN), some (.putfield 113, 3, xF 9 10 0), none, none, some (.aload_n 0, 1, xN), some (.aload_n 0, 1, xN), some (.getfield 36, 3, xF 9 4 2), none,
  none, some (.getfield 85, 3, xF 2 1 0), none, none, some (.putfield 116, 3, xF 9 11 0), none, none, some (.aload_n 0, 1, xN),
  some (.getfield 36, 3, xF 9 4 2), none, none, some (.aload_n 0, 1, xN), some (.getfield 113, 3, xF 9 10 0), none, none, some (.iconst 1, 1, xI (1)),
  some (.isub, 1, xN), some (.i2l, 1, xN), some (.invokevirtual 103, 3, xN), none, none, some (.aload_n 0, 1, xN), some (.getfield 36, 3, xF 9 4 2), none,
  none, some (.getfield 79, 3, xF 2 3 3), none, none, some (.ifCond .ne (33), 3, xJ 141), none, none, some (.aload_n 0, 1, xN),
  some (.getfield 110, 3, xF 9 9 0), none, none, some (.ifCond .eq (26), 3, xJ 141), none, none, some (.aload_n 0, 1, xN), some (.getfield 113, 3, xF 9 10 0),
  none, none, some (.bipush 10, 2, xI (10)), none, some (.if_icmp .lt (17), 3, xJ 141), none, none, some (.aload_n 0, 1, xN),
  some (.getfield 113, 3, xF 9 10 0), none, none, some (.sipush 200, 3, xI (200)), none, none, some (.if_icmp .gt (7), 3, xJ 141), none,
  none, some (.iconst 1, 1, xI (1)), some (.goto (4), 3, xJ 142), none, none, some (.iconst 0, 1, xI (0)), some (.ireturn, 1, xN)]
def M_Li_readHead : am_Me := (⟨R_Li, "readHead", "()Z"⟩, prog_6_method_4_code, 1, (some .boolean), Y_Li, cd_Li_readHead, 1, 24, 0, 0)
set_option maxRecDepth 100000 in
theorem ok_Li_readHead : am_ok S_c M_Li_readHead := am_ok_ofY (Y := Y_Li) (cd := cd_Li_readHead) (by decide +kernel) rfl rfl rfl oY_Li (by decide +kernel)
def cd_Li_readNames : List (Option am_I) := [some (.aload_n 0, 1, xN), some (.invokevirtual 119, 3, xN), none, none, some (.ifCond .ne (5), 3, xJ 9), none, none, some (.iconst 0, 1, xI (0)),
  some (.ireturn, 1, xN), some (.aload_n 0, 1, xN), some (.getfield 36, 3, xF 9 4 2), none, none, some (.invokevirtual 122, 3, xN), none, none,
  some (.lstore_n 3, 1, xN), some (.aload_n 0, 1, xN), some (.getfield 36, 3, xF 9 4 2), none, none, some (.getfield 79, 3, xF 2 3 3), none, none,
  some (.ifCond .eq (5), 3, xJ 29), none, none, some (.iconst 0, 1, xI (0)), some (.ireturn, 1, xN), some (.aload_n 0, 1, xN), some (.getfield 126, 3, xF 9 6 0), none,
  none, some (.ifCond .ne (9), 3, xJ 42), none, none, some (.iload_n 2, 1, xN), some (.ifCond .ne (5), 3, xJ 42), none, none,
  some (.iconst 1, 1, xI (1)), some (.ireturn, 1, xN), some (.lload_n 3, 1, xN), some (.lconst 0, 1, xL 0), some (.lcmp, 1, xN), some (.ifCond .lt (21), 3, xJ 66), none, none,
  some (.lload_n 3, 1, xN), some (.iload_n 2, 1, xN), some (.ifCond .eq (8), 3, xJ 58), none, none, some (.bipush 30, 2, xI (30)), none, some (.goto (6), 3, xJ 61),
  none, none, some (.sipush 3000, 3, xI (3000)), none, none, some (.i2l, 1, xN), some (.lcmp, 1, xN), some (.ifCond .le (5), 3, xJ 68),
  none, none, some (.iconst 0, 1, xI (0)), some (.ireturn, 1, xN), some (.iconst 0, 1, xI (0)), some (.istore 5, 2, xN), none, some (.iload 5, 2, xN),
  none, some (.i2l, 1, xN), some (.lload_n 3, 1, xN), some (.lcmp, 1, xN), some (.ifCond .ge (39), 3, xJ 115), none, none, some (.aload_n 0, 1, xN),
  some (.getfield 36, 3, xF 9 4 2), none, none, some (.getfield 79, 3, xF 2 3 3), none, none, some (.ifCond .ne (29), 3, xJ 115), none,
  none, some (.aload_n 0, 1, xN), some (.invokevirtual 129, 3, xN), none, none, some (.istore 6, 2, xN), none, some (.iload_n 2, 1, xN),
  some (.ifCond .eq (13), 3, xJ 109), none, none, some (.aload_n 0, 1, xN), some (.getfield 27, 3, xF 9 2 2), none, none, some (.iload_n 1, 1, xN),
  some (.iload 6, 2, xN), none, some (.invokevirtual 133, 3, xN), none, none, some (.iinc 5 (1), 3, xI (1)), none, none,
  some (.goto (-41), 3, xJ 71), none, none, some (.aload_n 0, 1, xN), some (.getfield 36, 3, xF 9 4 2), none, none, some (.getfield 79, 3, xF 2 3 3),
  none, none, some (.ifCond .ne (7), 3, xJ 129), none, none, some (.iconst 1, 1, xI (1)), some (.goto (4), 3, xJ 130), none,
  none, some (.iconst 0, 1, xI (0)), some (.ireturn, 1, xN)]
def M_Li_readNames : am_Me := (⟨R_Li, "readNames", "(IZ)Z"⟩, prog_6_method_5_code, 7, (some .boolean), Y_Li, cd_Li_readNames, 4, 91, 0, 0)
set_option maxRecDepth 100000 in
theorem ok_Li_readNames : am_ok S_c M_Li_readNames := am_ok_ofY (Y := Y_Li) (cd := cd_Li_readNames) (by decide +kernel) rfl rfl rfl oY_Li (by decide +kernel)
def cd_Li_readForms : List (Option am_I) := [some (.aload_n 0, 1, xN), some (.aload_n 0, 1, xN), some (.getfield 36, 3, xF 9 4 2), none, none, some (.iconst 1, 1, xI (1)), some (.invokevirtual 75, 3, xN), none,
  none, some (.l2i, 1, xN), some (.putfield 126, 3, xF 9 6 0), none, none, some (.aload_n 0, 1, xN), some (.iconst (-1), 1, xI (-1)), some (.putfield 137, 3, xF 9 7 0),
  none, none, some (.aload_n 0, 1, xN), some (.getfield 36, 3, xF 9 4 2), none, none, some (.getfield 79, 3, xF 2 3 3), none,
  none, some (.ifCond .ne (12), 3, xJ 37), none, none, some (.aload_n 0, 1, xN), some (.getfield 126, 3, xF 9 6 0), none, none,
  some (.bipush 6, 2, xI (6)), none, some (.if_icmp .le (5), 3, xJ 39), none, none, some (.iconst 0, 1, xI (0)), some (.ireturn, 1, xN), some (.iconst 0, 1, xI (0)),
  some (.istore_n 1, 1, xN), some (.iload_n 1, 1, xN), some (.aload_n 0, 1, xN), some (.getfield 126, 3, xF 9 6 0), none, none, some (.if_icmp .ge (154), 3, xJ 200), none,
  none, some (.aload_n 0, 1, xN), some (.getfield 36, 3, xF 9 4 2), none, none, some (.invokevirtual 122, 3, xN), none, none,
  some (.lstore_n 2, 1, xN), some (.aload_n 0, 1, xN), some (.getfield 36, 3, xF 9 4 2), none, none, some (.invokevirtual 122, 3, xN), none, none,
  some (.lstore 4, 2, xN), none, some (.lload 4, 2, xN), none, some (.ldc2_w 90, 3, xL (8)), none, none, some (.lcmp, 1, xN),
  some (.ifCond .eq (12), 3, xJ 84), none, none, some (.lload 4, 2, xN), none, some (.ldc2_w 140, 3, xL (31)), none, none,
  some (.lcmp, 1, xN), some (.ifCond .ne (7), 3, xJ 88), none, none, some (.iconst 1, 1, xI (1)), some (.goto (4), 3, xJ 89), none, none,
  some (.iconst 0, 1, xI (0)), some (.istore 6, 2, xN), none, some (.lload_n 2, 1, xN), some (.lconst 1, 1, xL 1), some (.lcmp, 1, xN), some (.ifCond .ne (15), 3, xJ 109), none,
  none, some (.aload_n 0, 1, xN), some (.getfield 137, 3, xF 9 7 0), none, none, some (.iconst (-1), 1, xI (-1)), some (.if_icmp .ne (7), 3, xJ 109), none,
  none, some (.iconst 1, 1, xI (1)), some (.goto (4), 3, xJ 110), none, none, some (.iconst 0, 1, xI (0)), some (.istore 7, 2, xN), none,
  some (.aload_n 0, 1, xN), some (.getfield 36, 3, xF 9 4 2), none, none, some (.getfield 79, 3, xF 2 3 3), none, none, some (.ifCond .ne (13), 3, xJ 132),
  none, none, some (.iload 7, 2, xN), none, some (.ifCond .eq (10), 3, xJ 134), none, none, some (.iload 6, 2, xN),
  none, some (.ifCond .ne (5), 3, xJ 134), none, none, some (.iconst 0, 1, xI (0)), some (.ireturn, 1, xN), some (.iload 6, 2, xN), none,
  some (.ifCond .ne (32), 3, xJ 168), none, none, some (.lload 4, 2, xN), none, some (.ldc2_w 142, 3, xL (11)), none, none,
  some (.lcmp, 1, xN), some (.ifCond .eq (23), 3, xJ 168), none, none, some (.lload 4, 2, xN), none, some (.ldc2_w 88, 3, xL (5)), none,
  none, some (.lcmp, 1, xN), some (.ifCond .eq (14), 3, xJ 168), none, none, some (.lload 4, 2, xN), none, some (.ldc2_w 144, 3, xL (15)),
  none, none, some (.lcmp, 1, xN), some (.ifCond .eq (5), 3, xJ 168), none, none, some (.iconst 0, 1, xI (0)), some (.ireturn, 1, xN),
  some (.aload_n 0, 1, xN), some (.getfield 9, 3, xF 9 5 2), none, none, some (.iload_n 1, 1, xN), some (.lload 4, 2, xN), none, some (.l2i, 1, xN),
  some (.iastore, 1, xN), some (.aload_n 0, 1, xN), some (.iload 7, 2, xN), none, some (.ifCond .eq (7), 3, xJ 187), none, none, some (.iload_n 1, 1, xN),
  some (.goto (7), 3, xJ 191), none, none, some (.aload_n 0, 1, xN), some (.getfield 137, 3, xF 9 7 0), none, none, some (.putfield 137, 3, xF 9 7 0),
  none, none, some (.iinc 1 (1), 3, xI (1)), none, none, some (.goto (-156), 3, xJ 41), none, none,
  some (.iconst 1, 1, xI (1)), some (.ireturn, 1, xN)]
def M_Li_readForms : am_Me := (⟨R_Li, "readForms", "()Z"⟩, prog_6_method_6_code, 8, (some .boolean), Y_Li, cd_Li_readForms, 2, 46, 0, 0)
set_option maxRecDepth 100000 in
theorem ok_Li_readForms : am_ok S_c M_Li_readForms := am_ok_ofY (Y := Y_Li) (cd := cd_Li_readForms) (by decide +kernel) rfl rfl rfl oY_Li (by decide +kernel)
def cd_Li_readName : List (Option am_I) := [some (.iconst (-1), 1, xI (-1)), some (.istore_n 1, 1, xN), some (.iconst 0, 1, xI (0)), some (.istore_n 2, 1, xN), some (.iload_n 2, 1, xN), some (.aload_n 0, 1, xN), some (.getfield 126, 3, xF 9 6 0), none,
  none, some (.if_icmp .ge (87), 3, xJ 96), none, none, some (.iload_n 2, 1, xN), some (.bipush 6, 2, xI (6)), none, some (.if_icmp .ge (81), 3, xJ 96),
  none, none, some (.aload_n 0, 1, xN), some (.aload_n 0, 1, xN), some (.getfield 9, 3, xF 9 5 2), none, none, some (.iload_n 2, 1, xN),
  some (.iaload, 1, xN), some (.invokevirtual 146, 3, xN), none, none, some (.lstore_n 3, 1, xN), some (.iload_n 2, 1, xN), some (.aload_n 0, 1, xN), some (.getfield 137, 3, xF 9 7 0),
  none, none, some (.if_icmp .ne (56), 3, xJ 90), none, none, some (.aload_n 0, 1, xN), some (.getfield 9, 3, xF 9 5 2), none,
  none, some (.iload_n 2, 1, xN), some (.iaload, 1, xN), some (.bipush 8, 2, xI (8)), none, some (.if_icmp .ne (8), 3, xJ 53), none, none,
  some (.lload_n 3, 1, xN), some (.l2i, 1, xN), some (.goto (12), 3, xJ 62), none, none, some (.aload_n 0, 1, xN), some (.getfield 19, 3, xF 9 0 2), none,
  none, some (.iconst 3, 1, xI (3)), some (.lload_n 3, 1, xN), some (.invokevirtual 149, 3, xN), none, none, some (.istore_n 1, 1, xN), some (.aload_n 0, 1, xN),
  some (.getfield 36, 3, xF 9 4 2), none, none, some (.aload_n 0, 1, xN), some (.getfield 36, 3, xF 9 4 2), none, none, some (.getfield 79, 3, xF 2 3 3),
  none, none, some (.ifCond .ne (8), 3, xJ 82), none, none, some (.iload_n 1, 1, xN), some (.iconst (-1), 1, xI (-1)), some (.if_icmp .ne (7), 3, xJ 86),
  none, none, some (.iconst 1, 1, xI (1)), some (.goto (4), 3, xJ 87), none, none, some (.iconst 0, 1, xI (0)), some (.putfield 79, 3, xF 2 3 3),
  none, none, some (.iinc 2 (1), 3, xI (1)), none, none, some (.goto (-89), 3, xJ 4), none, none,
  some (.iload_n 1, 1, xN), some (.ireturn, 1, xN)]
def M_Li_readName : am_Me := (⟨R_Li, "readName", "()I"⟩, prog_6_method_7_code, 5, (some .int), Y_Li, cd_Li_readName, 3, 67, 0, 0)
set_option maxRecDepth 100000 in
theorem ok_Li_readName : am_ok S_c M_Li_readName := am_ok_ofY (Y := Y_Li) (cd := cd_Li_readName) (by decide +kernel) rfl rfl rfl oY_Li (by decide +kernel)
def cd_Li_readValue : List (Option am_I) := [some (.iload_n 1, 1, xN), some (.lookupswitch (79) #[(5, 70), (8, 43), (11, 61), (31, 52)], 43, xN), none, none, none, none, none, none,
  none, none, none, none, none, none, none, none,
  none, none, none, none, none, none, none, none,
  none, none, none, none, none, none, none, none,
  none, none, none, none, none, none, none, none,
  none, none, none, none, some (.aload_n 0, 1, xN), some (.getfield 36, 3, xF 9 4 2), none, none,
  some (.invokevirtual 153, 3, xN), none, none, some (.i2l, 1, xN), some (.lreturn, 1, xN), some (.aload_n 0, 1, xN), some (.getfield 36, 3, xF 9 4 2), none,
  none, some (.iconst 4, 1, xI (4)), some (.invokevirtual 75, 3, xN), none, none, some (.lreturn, 1, xN), some (.aload_n 0, 1, xN), some (.getfield 36, 3, xF 9 4 2),
  none, none, some (.iconst 1, 1, xI (1)), some (.invokevirtual 75, 3, xN), none, none, some (.lreturn, 1, xN), some (.aload_n 0, 1, xN),
  some (.getfield 36, 3, xF 9 4 2), none, none, some (.iconst 2, 1, xI (2)), some (.invokevirtual 75, 3, xN), none, none, some (.lreturn, 1, xN),
  some (.aload_n 0, 1, xN), some (.getfield 36, 3, xF 9 4 2), none, none, some (.invokevirtual 122, 3, xN), none, none, some (.lreturn, 1, xN)]
def M_Li_readValue : am_Me := (⟨R_Li, "readValue", "(I)J"⟩, prog_6_method_8_code, 2, (some .long), Y_Li, cd_Li_readValue, 2, 46, 0, 0)
set_option maxRecDepth 100000 in
theorem ok_Li_readValue : am_ok S_c M_Li_readValue := am_ok_ofY (Y := Y_Li) (cd := cd_Li_readValue) (by decide +kernel) rfl rfl rfl oY_Li (by decide +kernel)
def cd_Li_readProgram : List (Option am_I) := [some (.aload_n 0, 1, xN), some (.invokevirtual 156, 3, xN), none, none, some (.iconst 0, 1, xI (0)), some (.istore_n 1, 1, xN), some (.iload_n 1, 1, xN), some (.sipush 3000, 3, xI (3000)),
  none, none, some (.if_icmp .ge (83), 3, xJ 93), none, none, some (.aload_n 0, 1, xN), some (.getfield 36, 3, xF 9 4 2), none,
  none, some (.getfield 85, 3, xF 2 1 0), none, none, some (.aload_n 0, 1, xN), some (.getfield 36, 3, xF 9 4 2), none, none,
  some (.getfield 83, 3, xF 2 2 0), none, none, some (.if_icmp .ge (66), 3, xJ 93), none, none, some (.aload_n 0, 1, xN), some (.getfield 36, 3, xF 9 4 2),
  none, none, some (.getfield 79, 3, xF 2 3 3), none, none, some (.ifCond .ne (56), 3, xJ 93), none, none,
  some (.aload_n 0, 1, xN), some (.getfield 36, 3, xF 9 4 2), none, none, some (.iconst 1, 1, xI (1)), some (.invokevirtual 75, 3, xN), none, none,
  some (.l2i, 1, xN), some (.istore_n 2, 1, xN), some (.iload_n 2, 1, xN), some (.aload_n 0, 1, xN), some (.getfield 113, 3, xF 9 10 0), none, none, some (.if_icmp .lt (16), 3, xJ 71),
  none, none, some (.aload_n 0, 1, xN), some (.iload_n 2, 1, xN), some (.aload_n 0, 1, xN), some (.getfield 113, 3, xF 9 10 0), none, none,
  some (.isub, 1, xN), some (.invokevirtual 159, 3, xN), none, none, some (.goto (19), 3, xJ 87), none, none, some (.iload_n 2, 1, xN),
  some (.ifCond .ne (10), 3, xJ 82), none, none, some (.aload_n 0, 1, xN), some (.invokevirtual 162, 3, xN), none, none, some (.goto (8), 3, xJ 87),
  none, none, some (.aload_n 0, 1, xN), some (.iload_n 2, 1, xN), some (.invokevirtual 165, 3, xN), none, none, some (.iinc 1 (1), 3, xI (1)),
  none, none, some (.goto (-84), 3, xJ 6), none, none, some (.aload_n 0, 1, xN), some (.getfield 36, 3, xF 9 4 2), none,
  none, some (.getfield 79, 3, xF 2 3 3), none, none, some (.ifCond .ne (7), 3, xJ 107), none, none, some (.iconst 1, 1, xI (1)),
  some (.goto (4), 3, xJ 108), none, none, some (.iconst 0, 1, xI (0)), some (.ireturn, 1, xN)]
def M_Li_readProgram : am_Me := (⟨R_Li, "readProgram", "()Z"⟩, prog_6_method_9_code, 3, (some .boolean), Y_Li, cd_Li_readProgram, 4, 90, 0, 0)
set_option maxRecDepth 100000 in
theorem ok_Li_readProgram : am_ok S_c M_Li_readProgram := am_ok_ofY (Y := Y_Li) (cd := cd_Li_readProgram) (by decide +kernel) rfl rfl rfl oY_Li (by decide +kernel)
def cd_Li_restart : List (Option am_I) := [some (.aload_n 0, 1, xN), some (.lconst 0, 1, xL 0), some (.putfield 168, 3, xF 9 12 1), none, none, some (.aload_n 0, 1, xN), some (.lconst 1, 1, xL 1), some (.putfield 172, 3, xF 9 13 1),
  none, none, some (.aload_n 0, 1, xN), some (.iconst 1, 1, xI (1)), some (.putfield 175, 3, xF 9 14 0), none, none, some (.return_, 1, xN)]
def M_Li_restart : am_Me := (⟨R_Li, "restart", "()V"⟩, prog_6_method_10_code, 1, none, Y_Li, cd_Li_restart, 0, 0, 0, 0)
set_option maxRecDepth 100000 in
theorem ok_Li_restart : am_ok S_c M_Li_restart := am_ok_ofY (Y := Y_Li) (cd := cd_Li_restart) (by decide +kernel) rfl rfl rfl oY_Li (by decide +kernel)
def cd_Li_addRow : List (Option am_I) := [some (.aload_n 0, 1, xN), some (.getfield 27, 3, xF 9 2 2), none, none, some (.aload_n 0, 1, xN), some (.getfield 168, 3, xF 9 12 1), none, none,
  some (.aload_n 0, 1, xN), some (.getfield 172, 3, xF 9 13 1), none, none, some (.aload_n 0, 1, xN), some (.getfield 175, 3, xF 9 14 0), none, none,
  some (.iload_n 1, 1, xN), some (.invokevirtual 178, 3, xN), none, none, some (.ifCond .ne (11), 3, xJ 31), none, none, some (.aload_n 0, 1, xN),
  some (.getfield 36, 3, xF 9 4 2), none, none, some (.iconst 1, 1, xI (1)), some (.putfield 79, 3, xF 2 3 3), none, none, some (.return_, 1, xN)]
def M_Li_addRow : am_Me := (⟨R_Li, "addRow", "(Z)V"⟩, prog_6_method_11_code, 2, none, Y_Li, cd_Li_addRow, 1, 26, 0, 0)
set_option maxRecDepth 100000 in
theorem ok_Li_addRow : am_ok S_c M_Li_addRow := am_ok_ofY (Y := Y_Li) (cd := cd_Li_addRow) (by decide +kernel) rfl rfl rfl oY_Li (by decide +kernel)
def cd_Li_special : List (Option am_I) := [some (.aload_n 0, 1, xN), some (.dup, 1, xN), some (.getfield 168, 3, xF 9 12 1), none, none, some (.iload_n 1, 1, xN), some (.aload_n 0, 1, xN), some (.getfield 110, 3, xF 9 9 0),
  none, none, some (.idiv, 1, xN), some (.i2l, 1, xN), some (.ladd, 1, xN), some (.putfield 168, 3, xF 9 12 1), none, none,
  some (.aload_n 0, 1, xN), some (.dup, 1, xN), some (.getfield 175, 3, xF 9 14 0), none, none, some (.aload_n 0, 1, xN), some (.getfield 107, 3, xF 9 8 0), none,
  none, some (.iload_n 1, 1, xN), some (.aload_n 0, 1, xN), some (.getfield 110, 3, xF 9 9 0), none, none, some (.irem, 1, xN), some (.iadd, 1, xN),
  some (.iadd, 1, xN), some (.putfield 175, 3, xF 9 14 0), none, none, some (.aload_n 0, 1, xN), some (.iconst 0, 1, xI (0)), some (.invokevirtual 182, 3, xN), none,
  none, some (.return_, 1, xN)]
def M_Li_special : am_Me := (⟨R_Li, "special", "(I)V"⟩, prog_6_method_12_code, 2, none, Y_Li, cd_Li_special, 2, 47, 0, 0)
set_option maxRecDepth 100000 in
theorem ok_Li_special : am_ok S_c M_Li_special := am_ok_ofY (Y := Y_Li) (cd := cd_Li_special) (by decide +kernel) rfl rfl rfl oY_Li (by decide +kernel)
def cd_Li_extended : List (Option am_I) := [some (.aload_n 0, 1, xN), some (.getfield 36, 3, xF 9 4 2), none, none, some (.invokevirtual 122, 3, xN), none, none, some (.lstore_n 1, 1, xN),
  some (.aload_n 0, 1, xN), some (.getfield 36, 3, xF 9 4 2), none, none, some (.getfield 85, 3, xF 2 1 0), none, none, some (.istore_n 3, 1, xN),
  some (.aload_n 0, 1, xN), some (.getfield 36, 3, xF 9 4 2), none, none, some (.iconst 1, 1, xI (1)), some (.invokevirtual 75, 3, xN), none, none,
  some (.l2i, 1, xN), some (.istore 4, 2, xN), none, some (.iload 4, 2, xN), none, some (.iconst 2, 1, xI (2)), some (.if_icmp .ne (8), 3, xJ 38), none,
  none, some (.bipush 9, 2, xI (9)), none, some (.goto (4), 3, xJ 39), none, none, some (.iconst 1, 1, xI (1)), some (.istore 5, 2, xN),
  none, some (.aload_n 0, 1, xN), some (.getfield 36, 3, xF 9 4 2), none, none, some (.getfield 79, 3, xF 2 3 3), none, none,
  some (.ifCond .ne (26), 3, xJ 74), none, none, some (.lload_n 1, 1, xN), some (.iload 5, 2, xN), none, some (.i2l, 1, xN), some (.lcmp, 1, xN),
  some (.ifCond .lt (18), 3, xJ 74), none, none, some (.lload_n 1, 1, xN), some (.aload_n 0, 1, xN), some (.getfield 36, 3, xF 9 4 2), none, none,
  some (.getfield 83, 3, xF 2 2 0), none, none, some (.iload_n 3, 1, xN), some (.isub, 1, xN), some (.i2l, 1, xN), some (.lcmp, 1, xN), some (.ifCond .le (12), 3, xJ 83),
  none, none, some (.aload_n 0, 1, xN), some (.getfield 36, 3, xF 9 4 2), none, none, some (.iconst 1, 1, xI (1)), some (.putfield 79, 3, xF 2 3 3),
  none, none, some (.return_, 1, xN), some (.iload 4, 2, xN), none, some (.iconst 1, 1, xI (1)), some (.if_icmp .ne (15), 3, xJ 101), none,
  none, some (.aload_n 0, 1, xN), some (.iconst 1, 1, xI (1)), some (.invokevirtual 182, 3, xN), none, none, some (.aload_n 0, 1, xN), some (.invokevirtual 156, 3, xN),
  none, none, some (.goto (22), 3, xJ 120), none, none, some (.iload 4, 2, xN), none, some (.iconst 2, 1, xI (2)),
  some (.if_icmp .ne (16), 3, xJ 120), none, none, some (.aload_n 0, 1, xN), some (.aload_n 0, 1, xN), some (.getfield 36, 3, xF 9 4 2), none, none,
  some (.bipush 8, 2, xI (8)), none, some (.invokevirtual 75, 3, xN), none, none, some (.putfield 168, 3, xF 9 12 1), none, none,
  some (.aload_n 0, 1, xN), some (.getfield 36, 3, xF 9 4 2), none, none, some (.iload_n 3, 1, xN), some (.lload_n 1, 1, xN), some (.l2i, 1, xN), some (.iadd, 1, xN),
  some (.putfield 85, 3, xF 2 1 0), none, none, some (.return_, 1, xN)]
def M_Li_extended : am_Me := (⟨R_Li, "extended", "()V"⟩, prog_6_method_13_code, 6, none, Y_Li, cd_Li_extended, 2, 47, 0, 0)
set_option maxRecDepth 100000 in
theorem ok_Li_extended : am_ok S_c M_Li_extended := am_ok_ofY (Y := Y_Li) (cd := cd_Li_extended) (by decide +kernel) rfl rfl rfl oY_Li (by decide +kernel)
def cd_Li_standard : List (Option am_I) := [some (.iload_n 1, 1, xN), some (.tableswitch (184) (1) (12) #[63, 71, 90, 110, 124, 135, 135, 138, 164, 135, 135, 124], 63, xN), none, none, none, none, none, none,
  none, none, none, none, none, none, none, none,
  none, none, none, none, none, none, none, none,
  none, none, none, none, none, none, none, none,
  none, none, none, none, none, none, none, none,
  none, none, none, none, none, none, none, none,
  none, none, none, none, none, none, none, none,
  none, none, none, none, none, none, none, none,
  some (.aload_n 0, 1, xN), some (.iconst 0, 1, xI (0)), some (.invokevirtual 182, 3, xN), none, none, some (.goto (121), 3, xJ 190), none, none,
  some (.aload_n 0, 1, xN), some (.dup, 1, xN), some (.getfield 168, 3, xF 9 12 1), none, none, some (.aload_n 0, 1, xN), some (.getfield 36, 3, xF 9 4 2), none,
  none, some (.invokevirtual 122, 3, xN), none, none, some (.ladd, 1, xN), some (.putfield 168, 3, xF 9 12 1), none, none,
  some (.goto (102), 3, xJ 190), none, none, some (.aload_n 0, 1, xN), some (.dup, 1, xN), some (.getfield 175, 3, xF 9 14 0), none, none,
  some (.aload_n 0, 1, xN), some (.getfield 36, 3, xF 9 4 2), none, none, some (.invokevirtual 186, 3, xN), none, none, some (.l2i, 1, xN),
  some (.iadd, 1, xN), some (.putfield 175, 3, xF 9 14 0), none, none, some (.goto (82), 3, xJ 190), none, none, some (.aload_n 0, 1, xN),
  some (.aload_n 0, 1, xN), some (.getfield 36, 3, xF 9 4 2), none, none, some (.invokevirtual 122, 3, xN), none, none, some (.putfield 172, 3, xF 9 13 1),
  none, none, some (.goto (68), 3, xJ 190), none, none, some (.aload_n 0, 1, xN), some (.getfield 36, 3, xF 9 4 2), none,
  none, some (.invokevirtual 122, 3, xN), none, none, some (.pop2, 1, xN), some (.goto (57), 3, xJ 190), none, none,
  some (.goto (54), 3, xJ 190), none, none, some (.aload_n 0, 1, xN), some (.dup, 1, xN), some (.getfield 168, 3, xF 9 12 1), none, none,
  some (.sipush 255, 3, xI (255)), none, none, some (.aload_n 0, 1, xN), some (.getfield 113, 3, xF 9 10 0), none, none, some (.isub, 1, xN),
  some (.aload_n 0, 1, xN), some (.getfield 110, 3, xF 9 9 0), none, none, some (.idiv, 1, xN), some (.i2l, 1, xN), some (.ladd, 1, xN), some (.putfield 168, 3, xF 9 12 1),
  none, none, some (.goto (28), 3, xJ 190), none, none, some (.aload_n 0, 1, xN), some (.dup, 1, xN), some (.getfield 168, 3, xF 9 12 1),
  none, none, some (.aload_n 0, 1, xN), some (.getfield 36, 3, xF 9 4 2), none, none, some (.iconst 2, 1, xI (2)), some (.invokevirtual 75, 3, xN),
  none, none, some (.ladd, 1, xN), some (.putfield 168, 3, xF 9 12 1), none, none, some (.goto (8), 3, xJ 190), none,
  none, some (.aload_n 0, 1, xN), some (.iload_n 1, 1, xN), some (.invokevirtual 189, 3, xN), none, none, some (.return_, 1, xN)]
def M_Li_standard : am_Me := (⟨R_Li, "standard", "(I)V"⟩, prog_6_method_14_code, 2, none, Y_Li, cd_Li_standard, 3, 69, 0, 0)
set_option maxRecDepth 100000 in
theorem ok_Li_standard : am_ok S_c M_Li_standard := am_ok_ofY (Y := Y_Li) (cd := cd_Li_standard) (by decide +kernel) rfl rfl rfl oY_Li (by decide +kernel)
def cd_Li_passOperands : List (Option am_I) := [some (.aload_n 0, 1, xN), some (.getfield 15, 3, xF 9 3 2), none, none, some (.aload_n 0, 1, xN), some (.getfield 116, 3, xF 9 11 0), none, none,
  some (.iload_n 1, 1, xN), some (.iadd, 1, xN), some (.iconst 1, 1, xI (1)), some (.isub, 1, xN), some (.baload, 1, xJ 2), some (.sipush 255, 3, xI (255)), none, none,
  some (.iand, 1, xN), some (.istore_n 2, 1, xN), some (.iconst 0, 1, xI (0)), some (.istore_n 3, 1, xN), some (.iload_n 3, 1, xN), some (.iload_n 2, 1, xN), some (.if_icmp .ge (27), 3, xJ 49), none,
  none, some (.aload_n 0, 1, xN), some (.getfield 36, 3, xF 9 4 2), none, none, some (.getfield 79, 3, xF 2 3 3), none, none,
  some (.ifCond .ne (17), 3, xJ 49), none, none, some (.aload_n 0, 1, xN), some (.getfield 36, 3, xF 9 4 2), none, none, some (.invokevirtual 122, 3, xN),
  none, none, some (.pop2, 1, xN), some (.iinc 3 (1), 3, xI (1)), none, none, some (.goto (-26), 3, xJ 20), none,
  none, some (.return_, 1, xN)]
def M_Li_passOperands : am_Me := (⟨R_Li, "passOperands", "(I)V"⟩, prog_6_method_15_code, 4, none, Y_Li, cd_Li_passOperands, 2, 46, 0, 0)
set_option maxRecDepth 100000 in
theorem ok_Li_passOperands : am_ok S_c M_Li_passOperands := am_ok_ofY (Y := Y_Li) (cd := cd_Li_passOperands) (by decide +kernel) rfl rfl rfl oY_Li (by decide +kernel)
def cd_Sy_read : List (Option am_I) := [some (.aload_n 0, 1, xN), some (.iconst 0, 1, xI (0)), some (.putfield 39, 3, xF 10 6 0), none, none, some (.aload_n 0, 1, xN), some (.getfield 26, 3, xF 10 0 2), none,
  none, some (.aload_n 0, 1, xN), some (.getfield 35, 3, xF 10 1 2), none, none, some (.bipush 8, 2, xI (8)), none, some (.lconst 0, 1, xL 0),
  some (.invokevirtual 43, 3, xN), none, none, some (.aload_n 0, 1, xN), some (.getfield 35, 3, xF 10 1 2), none, none, some (.getfield 49, 3, xF 2 2 0),
  none, none, some (.aload_n 0, 1, xN), some (.getfield 35, 3, xF 10 1 2), none, none, some (.getfield 52, 3, xF 2 1 0), none,
  none, some (.isub, 1, xN), some (.istore_n 1, 1, xN), some (.iload_n 1, 1, xN), some (.bipush 24, 2, xI (24)), none, some (.irem, 1, xN), some (.ifCond .ne (12), 3, xJ 51),
  none, none, some (.iload_n 1, 1, xN), some (.bipush 24, 2, xI (24)), none, some (.idiv, 1, xN), some (.bipush 60, 2, xI (60)), none,
  some (.if_icmp .le (5), 3, xJ 53), none, none, some (.iconst 0, 1, xI (0)), some (.ireturn, 1, xN), some (.iconst 0, 1, xI (0)), some (.istore_n 2, 1, xN), some (.iload_n 2, 1, xN),
  some (.iload_n 1, 1, xN), some (.bipush 24, 2, xI (24)), none, some (.idiv, 1, xN), some (.if_icmp .ge (28), 3, xJ 88), none, none, some (.aload_n 0, 1, xN),
  some (.invokevirtual 55, 3, xN), none, none, some (.ifCond .ne (5), 3, xJ 72), none, none, some (.iconst 0, 1, xI (0)), some (.ireturn, 1, xN),
  some (.aload_n 0, 1, xN), some (.dup, 1, xN), some (.getfield 39, 3, xF 10 6 0), none, none, some (.iconst 1, 1, xI (1)), some (.iadd, 1, xN), some (.putfield 39, 3, xF 10 6 0),
  none, none, some (.iinc 2 (1), 3, xI (1)), none, none, some (.goto (-30), 3, xJ 55), none, none,
  some (.iconst 1, 1, xI (1)), some (.ireturn, 1, xN)]
def M_Sy_read : am_Me := (⟨R_Sy, "read", "()Z"⟩, prog_10_method_2_code, 3, (some .boolean), Y_Sy, cd_Sy_read, 3, 71, 0, 0)
set_option maxRecDepth 100000 in
theorem ok_Sy_read : am_ok S_c M_Sy_read := am_ok_ofY (Y := Y_Sy) (cd := cd_Sy_read) (by decide +kernel) rfl rfl rfl oY_Sy (by decide +kernel)
def cd_Sy_covering : List (Option am_I) := [some (.iconst 0, 1, xI (0)), some (.istore_n 3, 1, xN), some (.iload_n 3, 1, xN), some (.aload_n 0, 1, xN), some (.getfield 39, 3, xF 10 6 0), none, none, some (.if_icmp .ge (46), 3, xJ 53),
  none, none, some (.aload_n 0, 1, xN), some (.getfield 15, 3, xF 10 3 2), none, none, some (.iload_n 3, 1, xN), some (.baload, 1, xJ 3),
  some (.ifCond .eq (31), 3, xJ 47), none, none, some (.lload_n 1, 1, xN), some (.aload_n 0, 1, xN), some (.getfield 19, 3, xF 10 4 2), none, none,
  some (.iload_n 3, 1, xN), some (.laload, 1, xN), some (.invokestatic 59, 3, xN), none, none, some (.ifCond .ne (18), 3, xJ 47), none, none,
  some (.lload_n 1, 1, xN), some (.aload_n 0, 1, xN), some (.getfield 23, 3, xF 10 5 2), none, none, some (.iload_n 3, 1, xN), some (.laload, 1, xN), some (.invokestatic 59, 3, xN),
  none, none, some (.ifCond .eq (5), 3, xJ 47), none, none, some (.iload_n 3, 1, xN), some (.ireturn, 1, xN), some (.iinc 3 (1), 3, xI (1)),
  none, none, some (.goto (-48), 3, xJ 2), none, none, some (.iconst (-1), 1, xI (-1)), some (.ireturn, 1, xN)]
def M_Sy_covering : am_Me := (⟨R_Sy, "covering", "(J)I"⟩, prog_10_method_3_code, 4, (some .int), Y_Sy, cd_Sy_covering, 1, 23, 0, 0)
set_option maxRecDepth 100000 in
theorem ok_Sy_covering : am_ok S_c M_Sy_covering := am_ok_ofY (Y := Y_Sy) (cd := cd_Sy_covering) (by decide +kernel) rfl rfl rfl oY_Sy (by decide +kernel)
def cd_Sy_readOne : List (Option am_I) := [some (.aload_n 0, 1, xN), some (.getfield 9, 3, xF 10 2 2), none, none, some (.aload_n 0, 1, xN), some (.getfield 39, 3, xF 10 6 0), none, none,
  some (.aload_n 0, 1, xN), some (.getfield 26, 3, xF 10 0 2), none, none, some (.bipush 9, 2, xI (9)), none, some (.aload_n 0, 1, xN), some (.getfield 35, 3, xF 10 1 2),
  none, none, some (.iconst 4, 1, xI (4)), some (.invokevirtual 63, 3, xN), none, none, some (.invokevirtual 67, 3, xN), none,
  none, some (.iastore, 1, xN), some (.aload_n 0, 1, xN), some (.getfield 15, 3, xF 10 3 2), none, none, some (.aload_n 0, 1, xN), some (.getfield 39, 3, xF 10 6 0),
  none, none, some (.aload_n 0, 1, xN), some (.getfield 35, 3, xF 10 1 2), none, none, some (.iconst 1, 1, xI (1)), some (.invokevirtual 63, 3, xN),
  none, none, some (.ldc2_w 71, 3, xL (15)), none, none, some (.land, 1, xN), some (.ldc2_w 73, 3, xL (2)), none,
  none, some (.lcmp, 1, xN), some (.ifCond .ne (7), 3, xJ 57), none, none, some (.iconst 1, 1, xI (1)), some (.goto (4), 3, xJ 58), none,
  none, some (.iconst 0, 1, xI (0)), some (.bastore, 1, xJ 3), some (.aload_n 0, 1, xN), some (.getfield 35, 3, xF 10 1 2), none, none, some (.ldc2_w 75, 3, xL (3)),
  none, none, some (.invokevirtual 77, 3, xN), none, none, some (.aload_n 0, 1, xN), some (.getfield 19, 3, xF 10 4 2), none,
  none, some (.aload_n 0, 1, xN), some (.getfield 39, 3, xF 10 6 0), none, none, some (.aload_n 0, 1, xN), some (.getfield 35, 3, xF 10 1 2), none,
  none, some (.bipush 8, 2, xI (8)), none, some (.invokevirtual 63, 3, xN), none, none, some (.lastore, 1, xN), some (.aload_n 0, 1, xN),
  some (.getfield 23, 3, xF 10 5 2), none, none, some (.aload_n 0, 1, xN), some (.getfield 39, 3, xF 10 6 0), none, none, some (.aload_n 0, 1, xN),
  some (.getfield 19, 3, xF 10 4 2), none, none, some (.aload_n 0, 1, xN), some (.getfield 39, 3, xF 10 6 0), none, none, some (.laload, 1, xN),
  some (.aload_n 0, 1, xN), some (.getfield 35, 3, xF 10 1 2), none, none, some (.bipush 8, 2, xI (8)), none, some (.invokevirtual 63, 3, xN), none,
  none, some (.ladd, 1, xN), some (.lastore, 1, xN), some (.aload_n 0, 1, xN), some (.getfield 35, 3, xF 10 1 2), none, none, some (.getfield 81, 3, xF 2 3 3),
  none, none, some (.ifCond .ne (20), 3, xJ 142), none, none, some (.aload_n 0, 1, xN), some (.getfield 9, 3, xF 10 2 2), none,
  none, some (.aload_n 0, 1, xN), some (.getfield 39, 3, xF 10 6 0), none, none, some (.iaload, 1, xN), some (.iconst (-1), 1, xI (-1)), some (.if_icmp .eq (7), 3, xJ 142),
  none, none, some (.iconst 1, 1, xI (1)), some (.goto (4), 3, xJ 143), none, none, some (.iconst 0, 1, xI (0)), some (.ireturn, 1, xN)]
def M_Sy_readOne : am_Me := (⟨R_Sy, "readOne", "()Z"⟩, prog_10_method_4_code, 1, (some .boolean), Y_Sy, cd_Sy_readOne, 2, 51, 0, 0)
set_option maxRecDepth 100000 in
theorem ok_Sy_readOne : am_ok S_c M_Sy_readOne := am_ok_ofY (Y := Y_Sy) (cd := cd_Sy_readOne) (by decide +kernel) rfl rfl rfl oY_Sy (by decide +kernel)
def cd_Fr_has : List (Option am_I) := [some (.iload_n 1, 1, xN), some (.ifCond .lt (15), 3, xJ 16), none, none, some (.iload_n 1, 1, xN), some (.aload_n 0, 1, xN), some (.getfield 50, 3, xF 11 11 0), none,
  none, some (.if_icmp .ge (7), 3, xJ 16), none, none, some (.iconst 1, 1, xI (1)), some (.goto (4), 3, xJ 17), none, none,
  some (.iconst 0, 1, xI (0)), some (.ireturn, 1, xN)]
def M_Fr_has : am_Me := (⟨R_Fr, "has", "(I)Z"⟩, prog_5_method_2_code, 2, (some .boolean), Y_Fr, cd_Fr_has, 0, 0, 0, 0)
set_option maxRecDepth 100000 in
theorem ok_Fr_has : am_ok S_c M_Fr_has := am_ok_ofY (Y := Y_Fr) (cd := cd_Fr_has) (by decide +kernel) rfl rfl rfl oY_Fr (by decide +kernel)
def cd_Fr_build : List (Option am_I) := [some (.aload_n 0, 1, xN), some (.iconst 0, 1, xI (0)), some (.putfield 50, 3, xF 11 11 0), none, none, some (.aload_n 0, 1, xN), some (.lload_n 1, 1, xN), some (.invokevirtual 54, 3, xN),
  none, none, some (.istore_n 3, 1, xN), some (.iload_n 3, 1, xN), some (.iconst (-1), 1, xI (-1)), some (.if_icmp .eq (14), 3, xJ 27), none, none,
  some (.aload_n 0, 1, xN), some (.iload_n 3, 1, xN), some (.lload_n 1, 1, xN), some (.invokevirtual 58, 3, xN), none, none, some (.aload_n 0, 1, xN), some (.getfield 50, 3, xF 11 11 0),
  none, none, some (.ireturn, 1, xN), some (.aload_n 0, 1, xN), some (.getfield 46, 3, xF 11 4 2), none, none, some (.lload_n 1, 1, xN),
  some (.invokevirtual 62, 3, xN), none, none, some (.istore 4, 2, xN), none, some (.iload 4, 2, xN), none, some (.iconst (-1), 1, xI (-1)),
  some (.if_icmp .eq (19), 3, xJ 59), none, none, some (.aload_n 0, 1, xN), some (.aload_n 0, 1, xN), some (.getfield 46, 3, xF 11 4 2), none, none,
  some (.getfield 67, 3, xF 10 2 2), none, none, some (.iload 4, 2, xN), none, some (.iaload, 1, xN), some (.iconst (-1), 1, xI (-1)), some (.iconst 0, 1, xI (0)),
  some (.invokevirtual 68, 3, xN), none, none, some (.aload_n 0, 1, xN), some (.getfield 50, 3, xF 11 11 0), none, none, some (.ireturn, 1, xN)]
def M_Fr_build : am_Me := (⟨R_Fr, "build", "(J)I"⟩, prog_5_method_3_code, 5, (some .int), Y_Fr, cd_Fr_build, 5, 124, 0, 0)
set_option maxRecDepth 100000 in
theorem ok_Fr_build : am_ok S_c M_Fr_build := am_ok_ofY (Y := Y_Fr) (cd := cd_Fr_build) (by decide +kernel) rfl rfl rfl oY_Fr (by decide +kernel)
def cd_Fr_firstFunction : List (Option am_I) := [some (.iconst 0, 1, xI (0)), some (.istore_n 3, 1, xN), some (.iload_n 3, 1, xN), some (.aload_n 0, 1, xN), some (.getfield 34, 3, xF 11 1 2), none, none, some (.getfield 72, 3, xF 3 10 0),
  none, none, some (.if_icmp .ge (39), 3, xJ 49), none, none, some (.aload_n 0, 1, xN), some (.getfield 34, 3, xF 11 1 2), none,
  none, some (.getfield 75, 3, xF 3 0 2), none, none, some (.iload_n 3, 1, xN), some (.laload, 1, xN), some (.ldc2_w 79, 3, xL (46)), none,
  none, some (.lcmp, 1, xN), some (.ifCond .ne (17), 3, xJ 43), none, none, some (.aload_n 0, 1, xN), some (.getfield 38, 3, xF 11 2 2), none,
  none, some (.iload_n 3, 1, xN), some (.lload_n 1, 1, xN), some (.invokevirtual 81, 3, xN), none, none, some (.ifCond .eq (5), 3, xJ 43), none,
  none, some (.iload_n 3, 1, xN), some (.ireturn, 1, xN), some (.iinc 3 (1), 3, xI (1)), none, none, some (.goto (-44), 3, xJ 2), none,
  none, some (.iconst (-1), 1, xI (-1)), some (.ireturn, 1, xN)]
def M_Fr_firstFunction : am_Me := (⟨R_Fr, "firstFunction", "(J)I"⟩, prog_5_method_4_code, 4, (some .int), Y_Fr, cd_Fr_firstFunction, 2, 47, 0, 0)
set_option maxRecDepth 100000 in
theorem ok_Fr_firstFunction : am_ok S_c M_Fr_firstFunction := am_ok_ofY (Y := Y_Fr) (cd := cd_Fr_firstFunction) (by decide +kernel) rfl rfl rfl oY_Fr (by decide +kernel)
def cd_Fr_addChain : List (Option am_I) := [some (.iconst 0, 1, xI (0)), some (.istore 4, 2, xN), none, some (.iload_n 1, 1, xN), some (.istore 5, 2, xN), none, some (.iconst 0, 1, xI (0)), some (.istore 6, 2, xN),
  none, some (.iload 6, 2, xN), none, some (.bipush 16, 2, xI (16)), none, some (.if_icmp .ge (39), 3, xJ 52), none, none,
  some (.iload 5, 2, xN), none, some (.iconst (-1), 1, xI (-1)), some (.if_icmp .eq (33), 3, xJ 52), none, none, some (.aload_n 0, 1, xN), some (.getfield 9, 3, xF 11 5 2),
  none, none, some (.iload 6, 2, xN), none, some (.iload 5, 2, xN), none, some (.iastore, 1, xN), some (.iload 6, 2, xN),
  none, some (.iconst 1, 1, xI (1)), some (.iadd, 1, xN), some (.istore 4, 2, xN), none, some (.aload_n 0, 1, xN), some (.iload 5, 2, xN), none,
  some (.lload_n 2, 1, xN), some (.invokevirtual 87, 3, xN), none, none, some (.istore 5, 2, xN), none, some (.iinc 6 (1), 3, xI (1)), none,
  none, some (.goto (-40), 3, xJ 9), none, none, some (.aload_n 0, 1, xN), some (.aload_n 0, 1, xN), some (.getfield 9, 3, xF 11 5 2), none,
  none, some (.iload 4, 2, xN), none, some (.iconst 1, 1, xI (1)), some (.isub, 1, xN), some (.iaload, 1, xN), some (.lload_n 2, 1, xN), some (.invokevirtual 91, 3, xN),
  none, none, some (.iload 4, 2, xN), none, some (.iconst 2, 1, xI (2)), some (.isub, 1, xN), some (.istore 6, 2, xN), none,
  some (.iload 6, 2, xN), none, some (.ifCond .lt (29), 3, xJ 103), none, none, some (.aload_n 0, 1, xN), some (.aload_n 0, 1, xN), some (.getfield 9, 3, xF 11 5 2),
  none, none, some (.iload 6, 2, xN), none, some (.iaload, 1, xN), some (.aload_n 0, 1, xN), some (.getfield 9, 3, xF 11 5 2), none,
  none, some (.iload 6, 2, xN), none, some (.iconst 1, 1, xI (1)), some (.iadd, 1, xN), some (.iaload, 1, xN), some (.invokevirtual 94, 3, xN), none,
  none, some (.iinc 6 (-1), 3, xI (-1)), none, none, some (.goto (-28), 3, xJ 72), none, none, some (.return_, 1, xN)]
def M_Fr_addChain : am_Me := (⟨R_Fr, "addChain", "(IJ)V"⟩, prog_5_method_5_code, 7, none, Y_Fr, cd_Fr_addChain, 4, 98, 0, 0)
set_option maxRecDepth 100000 in
theorem ok_Fr_addChain : am_ok S_c M_Fr_addChain := am_ok_ofY (Y := Y_Fr) (cd := cd_Fr_addChain) (by decide +kernel) rfl rfl rfl oY_Fr (by decide +kernel)
def cd_Fr_firstPutInto : List (Option am_I) := [some (.iload_n 1, 1, xN), some (.iconst 1, 1, xI (1)), some (.iadd, 1, xN), some (.istore 4, 2, xN), none, some (.iload 4, 2, xN), none, some (.aload_n 0, 1, xN),
  some (.getfield 34, 3, xF 11 1 2), none, none, some (.getfield 72, 3, xF 3 10 0), none, none, some (.if_icmp .ge (53), 3, xJ 67), none,
  none, some (.aload_n 0, 1, xN), some (.getfield 34, 3, xF 11 1 2), none, none, some (.getfield 75, 3, xF 3 0 2), none, none,
  some (.iload 4, 2, xN), none, some (.laload, 1, xN), some (.ldc2_w 98, 3, xL (29)), none, none, some (.lcmp, 1, xN), some (.ifCond .ne (30), 3, xJ 61),
  none, none, some (.aload_n 0, 1, xN), some (.getfield 38, 3, xF 11 2 2), none, none, some (.iload 4, 2, xN), none,
  some (.lload_n 2, 1, xN), some (.invokevirtual 81, 3, xN), none, none, some (.ifCond .eq (17), 3, xJ 61), none, none, some (.aload_n 0, 1, xN),
  some (.iload 4, 2, xN), none, some (.iload_n 1, 1, xN), some (.lload_n 2, 1, xN), some (.invokevirtual 100, 3, xN), none, none, some (.ifCond .eq (6), 3, xJ 61),
  none, none, some (.iload 4, 2, xN), none, some (.ireturn, 1, xN), some (.iinc 4 (1), 3, xI (1)), none, none,
  some (.goto (-59), 3, xJ 5), none, none, some (.iconst (-1), 1, xI (-1)), some (.ireturn, 1, xN)]
def M_Fr_firstPutInto : am_Me := (⟨R_Fr, "firstPutInto", "(IJ)I"⟩, prog_5_method_6_code, 5, (some .int), Y_Fr, cd_Fr_firstPutInto, 3, 73, 0, 0)
set_option maxRecDepth 100000 in
theorem ok_Fr_firstPutInto : am_ok S_c M_Fr_firstPutInto := am_ok_ofY (Y := Y_Fr) (cd := cd_Fr_firstPutInto) (by decide +kernel) rfl rfl rfl oY_Fr (by decide +kernel)
def cd_Fr_isIn : List (Option am_I) := [some (.aload_n 0, 1, xN), some (.getfield 34, 3, xF 11 1 2), none, none, some (.getfield 104, 3, xF 3 1 2), none, none, some (.iload_n 1, 1, xN),
  some (.iaload, 1, xN), some (.istore 5, 2, xN), none, some (.iconst 0, 1, xI (0)), some (.istore 6, 2, xN), none, some (.iload 6, 2, xN), none,
  some (.bipush 16, 2, xI (16)), none, some (.if_icmp .ge (79), 3, xJ 97), none, none, some (.iload 5, 2, xN), none, some (.iload_n 2, 1, xN),
  some (.if_icmp .eq (73), 3, xJ 97), none, none, some (.iload 5, 2, xN), none, some (.iconst (-1), 1, xI (-1)), some (.if_icmp .eq (20), 3, xJ 50), none,
  none, some (.aload_n 0, 1, xN), some (.getfield 34, 3, xF 11 1 2), none, none, some (.getfield 75, 3, xF 3 0 2), none, none,
  some (.iload 5, 2, xN), none, some (.laload, 1, xN), some (.ldc2_w 107, 3, xL (11)), none, none, some (.lcmp, 1, xN), some (.ifCond .eq (5), 3, xJ 52),
  none, none, some (.iconst 0, 1, xI (0)), some (.ireturn, 1, xN), some (.aload_n 0, 1, xN), some (.getfield 34, 3, xF 11 1 2), none, none,
  some (.iload 5, 2, xN), none, some (.invokevirtual 109, 3, xN), none, none, some (.ifCond .eq (18), 3, xJ 79), none, none,
  some (.aload_n 0, 1, xN), some (.getfield 38, 3, xF 11 2 2), none, none, some (.iload 5, 2, xN), none, some (.lload_n 3, 1, xN), some (.invokevirtual 81, 3, xN),
  none, none, some (.ifCond .ne (5), 3, xJ 79), none, none, some (.iconst 0, 1, xI (0)), some (.ireturn, 1, xN), some (.aload_n 0, 1, xN),
  some (.getfield 34, 3, xF 11 1 2), none, none, some (.getfield 104, 3, xF 3 1 2), none, none, some (.iload 5, 2, xN), none,
  some (.iaload, 1, xN), some (.istore 5, 2, xN), none, some (.iinc 6 (1), 3, xI (1)), none, none, some (.goto (-80), 3, xJ 14), none,
  none, some (.iload 5, 2, xN), none, some (.iload_n 2, 1, xN), some (.if_icmp .ne (7), 3, xJ 107), none, none, some (.iconst 1, 1, xI (1)),
  some (.goto (4), 3, xJ 108), none, none, some (.iconst 0, 1, xI (0)), some (.ireturn, 1, xN)]
def M_Fr_isIn : am_Me := (⟨R_Fr, "isIn", "(IIJ)Z"⟩, prog_5_method_7_code, 7, (some .boolean), Y_Fr, cd_Fr_isIn, 2, 47, 0, 0)
set_option maxRecDepth 100000 in
theorem ok_Fr_isIn : am_ok S_c M_Fr_isIn := am_ok_ofY (Y := Y_Fr) (cd := cd_Fr_isIn) (by decide +kernel) rfl rfl rfl oY_Fr (by decide +kernel)
def cd_Fr_addInnermost : List (Option am_I) := [some (.aload_n 0, 1, xN), some (.getfield 34, 3, xF 11 1 2), none, none, some (.getfield 113, 3, xF 3 2 2), none, none, some (.iload_n 1, 1, xN),
  some (.iaload, 1, xN), some (.istore 4, 2, xN), none, some (.aload_n 0, 1, xN), some (.getfield 42, 3, xF 11 3 2), none, none, some (.iload 4, 2, xN),
  none, some (.lload_n 2, 1, xN), some (.invokevirtual 116, 3, xN), none, none, some (.istore 5, 2, xN), none, some (.iload 5, 2, xN),
  none, some (.iconst (-1), 1, xI (-1)), some (.if_icmp .ne (17), 3, xJ 43), none, none, some (.aload_n 0, 1, xN), some (.aload_n 0, 1, xN), some (.iload_n 1, 1, xN),
  some (.invokevirtual 121, 3, xN), none, none, some (.iconst (-1), 1, xI (-1)), some (.iconst 0, 1, xI (0)), some (.invokevirtual 68, 3, xN), none, none,
  some (.goto (41), 3, xJ 81), none, none, some (.aload_n 0, 1, xN), some (.aload_n 0, 1, xN), some (.iload_n 1, 1, xN), some (.invokevirtual 121, 3, xN), none,
  none, some (.aload_n 0, 1, xN), some (.getfield 42, 3, xF 11 3 2), none, none, some (.iload 4, 2, xN), none, some (.aload_n 0, 1, xN),
  some (.getfield 42, 3, xF 11 3 2), none, none, some (.getfield 125, 3, xF 8 1 2), none, none, some (.iload 5, 2, xN), none,
  some (.laload, 1, xN), some (.invokevirtual 128, 3, xN), none, none, some (.aload_n 0, 1, xN), some (.getfield 42, 3, xF 11 3 2), none, none,
  some (.getfield 131, 3, xF 8 2 2), none, none, some (.iload 5, 2, xN), none, some (.iaload, 1, xN), some (.invokevirtual 68, 3, xN), none,
  none, some (.return_, 1, xN)]
def M_Fr_addInnermost : am_Me := (⟨R_Fr, "addInnermost", "(IJ)V"⟩, prog_5_method_8_code, 6, none, Y_Fr, cd_Fr_addInnermost, 3, 73, 0, 0)
set_option maxRecDepth 100000 in
theorem ok_Fr_addInnermost : am_ok S_c M_Fr_addInnermost := am_ok_ofY (Y := Y_Fr) (cd := cd_Fr_addInnermost) (by decide +kernel) rfl rfl rfl oY_Fr (by decide +kernel)
def cd_Fr_addAround : List (Option am_I) := [some (.aload_n 0, 1, xN), some (.getfield 34, 3, xF 11 1 2), none, none, some (.iload_n 2, 1, xN), some (.iconst 5, 1, xI (5)), some (.invokevirtual 132, 3, xN), none,
  none, some (.istore_n 3, 1, xN), some (.iload_n 3, 1, xN), some (.ifCond .eq (31), 3, xJ 42), none, none, some (.aload_n 0, 1, xN), some (.getfield 42, 3, xF 11 3 2),
  none, none, some (.aload_n 0, 1, xN), some (.getfield 34, 3, xF 11 1 2), none, none, some (.getfield 113, 3, xF 3 2 2), none,
  none, some (.iload_n 1, 1, xN), some (.iaload, 1, xN), some (.aload_n 0, 1, xN), some (.getfield 34, 3, xF 11 1 2), none, none, some (.iload_n 2, 1, xN),
  some (.iconst 5, 1, xI (5)), some (.invokevirtual 136, 3, xN), none, none, some (.invokevirtual 128, 3, xN), none, none, some (.goto (4), 3, xJ 43),
  none, none, some (.iconst (-1), 1, xI (-1)), some (.istore 4, 2, xN), none, some (.aload_n 0, 1, xN), some (.aload_n 0, 1, xN), some (.iload_n 1, 1, xN),
  some (.invokevirtual 121, 3, xN), none, none, some (.iload 4, 2, xN), none, some (.aload_n 0, 1, xN), some (.getfield 34, 3, xF 11 1 2), none,
  none, some (.iload_n 2, 1, xN), some (.bipush 6, 2, xI (6)), none, some (.invokevirtual 132, 3, xN), none, none, some (.ifCond .eq (17), 3, xJ 80),
  none, none, some (.aload_n 0, 1, xN), some (.getfield 34, 3, xF 11 1 2), none, none, some (.iload_n 2, 1, xN), some (.bipush 6, 2, xI (6)),
  none, some (.invokevirtual 136, 3, xN), none, none, some (.l2i, 1, xN), some (.goto (4), 3, xJ 81), none, none,
  some (.iconst 0, 1, xI (0)), some (.invokevirtual 68, 3, xN), none, none, some (.return_, 1, xN)]
def M_Fr_addAround : am_Me := (⟨R_Fr, "addAround", "(II)V"⟩, prog_5_method_9_code, 5, none, Y_Fr, cd_Fr_addAround, 2, 45, 0, 0)
set_option maxRecDepth 100000 in
theorem ok_Fr_addAround : am_ok S_c M_Fr_addAround := am_ok_ofY (Y := Y_Fr) (cd := cd_Fr_addAround) (by decide +kernel) rfl rfl rfl oY_Fr (by decide +kernel)
def cd_Fr_nameOf : List (Option am_I) := [some (.iload_n 1, 1, xN), some (.istore_n 2, 1, xN), some (.iconst 0, 1, xI (0)), some (.istore_n 3, 1, xN), some (.iload_n 3, 1, xN), some (.bipush 8, 2, xI (8)), none, some (.if_icmp .gt (57), 3, xJ 64),
  none, none, some (.aload_n 0, 1, xN), some (.getfield 34, 3, xF 11 1 2), none, none, some (.iload_n 2, 1, xN), some (.iconst 0, 1, xI (0)),
  some (.invokevirtual 132, 3, xN), none, none, some (.ifCond .eq (14), 3, xJ 33), none, none, some (.aload_n 0, 1, xN), some (.getfield 34, 3, xF 11 1 2),
  none, none, some (.iload_n 2, 1, xN), some (.iconst 0, 1, xI (0)), some (.invokevirtual 136, 3, xN), none, none, some (.l2i, 1, xN),
  some (.ireturn, 1, xN), some (.aload_n 0, 1, xN), some (.getfield 34, 3, xF 11 1 2), none, none, some (.iload_n 2, 1, xN), some (.iconst 4, 1, xI (4)), some (.invokevirtual 132, 3, xN),
  none, none, some (.ifCond .ne (5), 3, xJ 47), none, none, some (.iconst (-1), 1, xI (-1)), some (.ireturn, 1, xN), some (.aload_n 0, 1, xN),
  some (.getfield 34, 3, xF 11 1 2), none, none, some (.iload_n 2, 1, xN), some (.iconst 4, 1, xI (4)), some (.invokevirtual 136, 3, xN), none, none,
  some (.l2i, 1, xN), some (.istore_n 2, 1, xN), some (.iinc 3 (1), 3, xI (1)), none, none, some (.goto (-57), 3, xJ 4), none, none,
  some (.iconst (-1), 1, xI (-1)), some (.ireturn, 1, xN)]
def M_Fr_nameOf : am_Me := (⟨R_Fr, "nameOf", "(I)I"⟩, prog_5_method_10_code, 4, (some .int), Y_Fr, cd_Fr_nameOf, 1, 22, 0, 0)
set_option maxRecDepth 100000 in
theorem ok_Fr_nameOf : am_ok S_c M_Fr_nameOf := am_ok_ofY (Y := Y_Fr) (cd := cd_Fr_nameOf) (by decide +kernel) rfl rfl rfl oY_Fr (by decide +kernel)
def cd_Fr_add : List (Option am_I) := [some (.aload_n 0, 1, xN), some (.getfield 15, 3, xF 11 6 2), none, none, some (.aload_n 0, 1, xN), some (.getfield 50, 3, xF 11 11 0), none, none,
  some (.iload_n 1, 1, xN), some (.iastore, 1, xN), some (.aload_n 0, 1, xN), some (.getfield 18, 3, xF 11 7 2), none, none, some (.aload_n 0, 1, xN), some (.getfield 50, 3, xF 11 11 0),
  none, none, some (.aload_n 0, 1, xN), some (.iload_n 1, 1, xN), some (.invokevirtual 140, 3, xN), none, none, some (.iastore, 1, xN),
  some (.aload_n 0, 1, xN), some (.getfield 21, 3, xF 11 8 2), none, none, some (.aload_n 0, 1, xN), some (.getfield 50, 3, xF 11 11 0), none, none,
  some (.iload_n 2, 1, xN), some (.iastore, 1, xN), some (.aload_n 0, 1, xN), some (.getfield 24, 3, xF 11 9 2), none, none, some (.aload_n 0, 1, xN), some (.getfield 50, 3, xF 11 11 0),
  none, none, some (.aload_n 0, 1, xN), some (.iload_n 2, 1, xN), some (.invokevirtual 140, 3, xN), none, none, some (.iastore, 1, xN),
  some (.aload_n 0, 1, xN), some (.getfield 27, 3, xF 11 10 2), none, none, some (.aload_n 0, 1, xN), some (.getfield 50, 3, xF 11 11 0), none, none,
  some (.iload_n 3, 1, xN), some (.iastore, 1, xN), some (.aload_n 0, 1, xN), some (.dup, 1, xN), some (.getfield 50, 3, xF 11 11 0), none, none, some (.iconst 1, 1, xI (1)),
  some (.iadd, 1, xN), some (.putfield 50, 3, xF 11 11 0), none, none, some (.return_, 1, xN)]
def M_Fr_add : am_Me := (⟨R_Fr, "add", "(III)V"⟩, prog_5_method_11_code, 4, none, Y_Fr, cd_Fr_add, 1, 22, 0, 0)
set_option maxRecDepth 100000 in
theorem ok_Fr_add : am_ok S_c M_Fr_add := am_ok_ofY (Y := Y_Fr) (cd := cd_Fr_add) (by decide +kernel) rfl rfl rfl oY_Fr (by decide +kernel)
def cd_Fr_textEnd : List (Option am_I) := [some (.iload_n 1, 1, xN), some (.iconst (-1), 1, xI (-1)), some (.if_icmp .ne (5), 3, xJ 7), none, none, some (.iconst (-1), 1, xI (-1)), some (.ireturn, 1, xN), some (.iload_n 1, 1, xN),
  some (.istore_n 2, 1, xN), some (.iload_n 2, 1, xN), some (.sipush 3000, 3, xI (3000)), none, none, some (.if_icmp .ge (18), 3, xJ 31), none, none,
  some (.aload_n 0, 1, xN), some (.getfield 30, 3, xF 11 0 2), none, none, some (.iload_n 2, 1, xN), some (.baload, 1, xJ 2), some (.ifCond .eq (9), 3, xJ 31), none,
  none, some (.iinc 2 (1), 3, xI (1)), none, none, some (.goto (-19), 3, xJ 9), none, none, some (.iload_n 2, 1, xN),
  some (.ireturn, 1, xN)]
def M_Fr_textEnd : am_Me := (⟨R_Fr, "textEnd", "(I)I"⟩, prog_5_method_12_code, 3, (some .int), Y_Fr, cd_Fr_textEnd, 0, 0, 0, 0)
set_option maxRecDepth 100000 in
theorem ok_Fr_textEnd : am_ok S_c M_Fr_textEnd := am_ok_ofY (Y := Y_Fr) (cd := cd_Fr_textEnd) (by decide +kernel) rfl rfl rfl oY_Fr (by decide +kernel)
end
section
def cd_Mo_thrown : List (Option am_I) := [some (.aload_n 0, 1, xN), some (.getfield 144, 3, xF 0 1 0), none, none, some (.ireturn, 1, xN)]
def M_Mo_thrown : am_Me := (⟨R_Mo, "thrown", "()I"⟩, prog_14_method_2_code, 1, (some .int), Y_Mo, cd_Mo_thrown, 0, 0, 0, 0)
set_option maxRecDepth 100000 in
theorem ok_Mo_thrown : am_ok S_m M_Mo_thrown := am_ok_ofY (Y := Y_Mo) (cd := cd_Mo_thrown) (by decide +kernel) rfl rfl rfl oY_Mo (by decide +kernel)
def cd_Mo_load : List (Option am_I) := [some (.aload_n 0, 1, xN), some (.iconst 0, 1, xI (0)), some (.putfield 144, 3, xF 0 1 0), none, none, some (.iload_n 1, 1, xN), some (.iconst 1, 1, xI (1)), some (.if_icmp .lt (21), 3, xJ 28),
  none, none, some (.iload_n 1, 1, xN), some (.bipush 8, 2, xI (8)), none, some (.if_icmp .gt (15), 3, xJ 28), none, none,
  some (.aload_n 0, 1, xN), some (.getfield 148, 3, xF 0 3 0), none, none, some (.iload_n 1, 1, xN), some (.iadd, 1, xN), some (.sipush 3000, 3, xI (3000)), none,
  none, some (.if_icmp .le (5), 3, xJ 30), none, none, some (.iconst 0, 1, xI (0)), some (.ireturn, 1, xN), some (.iconst 0, 1, xI (0)), some (.istore 4, 2, xN),
  none, some (.iload 4, 2, xN), none, some (.iload_n 1, 1, xN), some (.if_icmp .ge (37), 3, xJ 73), none, none, some (.aload_n 0, 1, xN),
  some (.getfield 45, 3, xF 0 2 2), none, none, some (.aload_n 0, 1, xN), some (.getfield 148, 3, xF 0 3 0), none, none, some (.lload_n 2, 1, xN),
  some (.bipush 8, 2, xI (8)), none, some (.iload 4, 2, xN), none, some (.imul, 1, xN), some (.lshr, 1, xN), some (.l2i, 1, xN), some (.i2b, 1, xN),
  some (.bastore, 1, xJ 2), some (.aload_n 0, 1, xN), some (.dup, 1, xN), some (.getfield 148, 3, xF 0 3 0), none, none, some (.iconst 1, 1, xI (1)), some (.iadd, 1, xN),
  some (.putfield 148, 3, xF 0 3 0), none, none, some (.iinc 4 (1), 3, xI (1)), none, none, some (.goto (-37), 3, xJ 33), none,
  none, some (.aload_n 0, 1, xN), some (.invokevirtual 151, 3, xN), none, none, some (.iconst 1, 1, xI (1)), some (.ireturn, 1, xN)]
def M_Mo_load : am_Me := (⟨R_Mo, "load", "(IJ)Z"⟩, prog_14_method_3_code, 5, (some .boolean), Y_Mo, cd_Mo_load, 1, 20, 0, 0)
set_option maxRecDepth 100000 in
theorem ok_Mo_load : am_ok S_m M_Mo_load := am_ok_ofY (Y := Y_Mo) (cd := cd_Mo_load) (by decide +kernel) rfl rfl rfl oY_Mo (by decide +kernel)
def cd_Mo_clear : List (Option am_I) := [some (.aload_n 0, 1, xN), some (.iconst 0, 1, xI (0)), some (.putfield 144, 3, xF 0 1 0), none, none, some (.aload_n 0, 1, xN), some (.iconst 0, 1, xI (0)), some (.putfield 148, 3, xF 0 3 0),
  none, none, some (.aload_n 0, 1, xN), some (.invokevirtual 151, 3, xN), none, none, some (.return_, 1, xN)]
def M_Mo_clear : am_Me := (⟨R_Mo, "clear", "()V"⟩, prog_14_method_4_code, 1, none, Y_Mo, cd_Mo_clear, 1, 20, 0, 0)
set_option maxRecDepth 100000 in
theorem ok_Mo_clear : am_ok S_m M_Mo_clear := am_ok_ofY (Y := Y_Mo) (cd := cd_Mo_clear) (by decide +kernel) rfl rfl rfl oY_Mo (by decide +kernel)
def cd_Mo_forget : List (Option am_I) := [some (.aload_n 0, 1, xN), some (.iconst 0, 1, xI (0)), some (.putfield 154, 3, xF 0 5 3), none, none, some (.aload_n 0, 1, xN), some (.iconst 0, 1, xI (0)), some (.putfield 158, 3, xF 0 56 0),
  none, none, some (.aload_n 0, 1, xN), some (.iconst 0, 1, xI (0)), some (.putfield 161, 3, xF 0 55 0), none, none, some (.return_, 1, xN)]
def M_Mo_forget : am_Me := (⟨R_Mo, "forget", "()V"⟩, prog_14_method_5_code, 1, none, Y_Mo, cd_Mo_forget, 0, 0, 0, 0)
set_option maxRecDepth 100000 in
theorem ok_Mo_forget : am_ok S_m M_Mo_forget := am_ok_ofY (Y := Y_Mo) (cd := cd_Mo_forget) (by decide +kernel) rfl rfl rfl oY_Mo (by decide +kernel)
def cd_Mo_u : List (Option am_I) := [some (.aload_n 0, 1, xN), some (.getfield 164, 3, xF 0 8 3), none, none, some (.ifCond .ne (16), 3, xJ 20), none, none, some (.aload_n 0, 1, xN),
  some (.getfield 167, 3, xF 0 6 0), none, none, some (.iload_n 1, 1, xN), some (.iadd, 1, xN), some (.aload_n 0, 1, xN), some (.getfield 170, 3, xF 0 7 0), none,
  none, some (.if_icmp .le (10), 3, xJ 27), none, none, some (.aload_n 0, 1, xN), some (.iconst 1, 1, xI (1)), some (.putfield 164, 3, xF 0 8 3), none,
  none, some (.lconst 0, 1, xL 0), some (.lreturn, 1, xN), some (.aload_n 0, 1, xN), some (.dup, 1, xN), some (.getfield 167, 3, xF 0 6 0), none, none,
  some (.iload_n 1, 1, xN), some (.iadd, 1, xN), some (.putfield 167, 3, xF 0 6 0), none, none, some (.aload_n 0, 1, xN), some (.aload_n 0, 1, xN), some (.getfield 167, 3, xF 0 6 0),
  none, none, some (.iload_n 1, 1, xN), some (.isub, 1, xN), some (.iload_n 1, 1, xN), some (.invokevirtual 173, 3, xN), none, none,
  some (.lreturn, 1, xN)]
def M_Mo_u : am_Me := (⟨R_Mo, "u", "(I)J"⟩, prog_14_method_6_code, 2, (some .long), Y_Mo, cd_Mo_u, 1, 25, 0, 0)
set_option maxRecDepth 100000 in
theorem ok_Mo_u : am_ok S_m M_Mo_u := am_ok_ofY (Y := Y_Mo) (cd := cd_Mo_u) (by decide +kernel) rfl rfl rfl oY_Mo (by decide +kernel)
def cd_Mo_leb : List (Option am_I) := [some (.lconst 0, 1, xL 0), some (.lstore_n 2, 1, xN), some (.iconst 0, 1, xI (0)), some (.istore 4, 2, xN), none, some (.sipush 128, 3, xI (128)), none, none,
  some (.istore 5, 2, xN), none, some (.iload 5, 2, xN), none, some (.bipush 127, 2, xI (127)), none, some (.if_icmp .le (69), 3, xJ 83), none,
  none, some (.aload_n 0, 1, xN), some (.getfield 164, 3, xF 0 8 3), none, none, some (.ifCond .ne (62), 3, xJ 83), none, none,
  some (.aload_n 0, 1, xN), some (.iconst 1, 1, xI (1)), some (.invokevirtual 177, 3, xN), none, none, some (.l2i, 1, xN), some (.istore 5, 2, xN), none,
  some (.aload_n 0, 1, xN), some (.aload_n 0, 1, xN), some (.getfield 164, 3, xF 0 8 3), none, none, some (.ifCond .ne (17), 3, xJ 54), none, none,
  some (.iload 4, 2, xN), none, some (.bipush 9, 2, xI (9)), none, some (.if_icmp .ne (14), 3, xJ 58), none, none, some (.iload 5, 2, xN),
  none, some (.bipush 127, 2, xI (127)), none, some (.if_icmp .le (7), 3, xJ 58), none, none, some (.iconst 1, 1, xI (1)), some (.goto (4), 3, xJ 59),
  none, none, some (.iconst 0, 1, xI (0)), some (.putfield 164, 3, xF 0 8 3), none, none, some (.lload_n 2, 1, xN), some (.iload 5, 2, xN),
  none, some (.bipush 127, 2, xI (127)), none, some (.iand, 1, xN), some (.i2l, 1, xN), some (.bipush 7, 2, xI (7)), none, some (.iload 4, 2, xN),
  none, some (.imul, 1, xN), some (.lshl, 1, xN), some (.lor, 1, xN), some (.lstore_n 2, 1, xN), some (.iinc 4 (1), 3, xI (1)), none, none,
  some (.goto (-70), 3, xJ 10), none, none, some (.iload_n 1, 1, xN), some (.ifCond .eq (32), 3, xJ 116), none, none, some (.iload 5, 2, xN),
  none, some (.bipush 64, 2, xI (64)), none, some (.iand, 1, xN), some (.ifCond .le (24), 3, xJ 116), none, none, some (.iload 4, 2, xN),
  none, some (.bipush 10, 2, xI (10)), none, some (.if_icmp .ge (17), 3, xJ 116), none, none, some (.lload_n 2, 1, xN), some (.ldc2_w 181, 3, xL (-1)),
  none, none, some (.bipush 7, 2, xI (7)), none, some (.iload 4, 2, xN), none, some (.imul, 1, xN), some (.lshl, 1, xN),
  some (.lor, 1, xN), some (.goto (4), 3, xJ 117), none, none, some (.lload_n 2, 1, xN), some (.lreturn, 1, xN)]
def M_Mo_leb : am_Me := (⟨R_Mo, "leb", "(Z)J"⟩, prog_14_method_7_code, 6, (some .long), Y_Mo, cd_Mo_leb, 2, 46, 0, 0)
set_option maxRecDepth 100000 in
theorem ok_Mo_leb : am_ok S_m M_Mo_leb := am_ok_ofY (Y := Y_Mo) (cd := cd_Mo_leb) (by decide +kernel) rfl rfl rfl oY_Mo (by decide +kernel)
def cd_Mo_textEnd : List (Option am_I) := [some (.iload_n 1, 1, xN), some (.istore_n 3, 1, xN), some (.iload_n 3, 1, xN), some (.iload_n 2, 1, xN), some (.if_icmp .ge (18), 3, xJ 22), none, none, some (.aload_n 0, 1, xN),
  some (.getfield 45, 3, xF 0 2 2), none, none, some (.iload_n 3, 1, xN), some (.baload, 1, xJ 2), some (.ifCond .eq (9), 3, xJ 22), none, none,
  some (.iinc 3 (1), 3, xI (1)), none, none, some (.goto (-17), 3, xJ 2), none, none, some (.iload_n 3, 1, xN), some (.iload_n 2, 1, xN),
  some (.if_icmp .ge (7), 3, xJ 31), none, none, some (.iload_n 3, 1, xN), some (.goto (4), 3, xJ 32), none, none, some (.iconst (-1), 1, xI (-1)),
  some (.ireturn, 1, xN)]
def M_Mo_textEnd : am_Me := (⟨R_Mo, "textEnd", "(II)I"⟩, prog_14_method_8_code, 4, (some .int), Y_Mo, cd_Mo_textEnd, 0, 0, 0, 0)
set_option maxRecDepth 100000 in
theorem ok_Mo_textEnd : am_ok S_m M_Mo_textEnd := am_ok_ofY (Y := Y_Mo) (cd := cd_Mo_textEnd) (by decide +kernel) rfl rfl rfl oY_Mo (by decide +kernel)
def cd_Mo_text : List (Option am_I) := [some (.aload_n 0, 1, xN), some (.getfield 167, 3, xF 0 6 0), none, none, some (.istore_n 1, 1, xN), some (.aload_n 0, 1, xN), some (.getfield 164, 3, xF 0 8 3), none,
  none, some (.ifCond .eq (7), 3, xJ 16), none, none, some (.iconst (-1), 1, xI (-1)), some (.goto (15), 3, xJ 28), none, none,
  some (.aload_n 0, 1, xN), some (.aload_n 0, 1, xN), some (.getfield 167, 3, xF 0 6 0), none, none, some (.aload_n 0, 1, xN), some (.getfield 170, 3, xF 0 7 0), none,
  none, some (.invokevirtual 183, 3, xN), none, none, some (.istore_n 2, 1, xN), some (.aload_n 0, 1, xN), some (.iload_n 2, 1, xN), some (.iconst (-1), 1, xI (-1)),
  some (.if_icmp .ne (7), 3, xJ 39), none, none, some (.iconst 1, 1, xI (1)), some (.goto (4), 3, xJ 40), none, none, some (.iconst 0, 1, xI (0)),
  some (.putfield 164, 3, xF 0 8 3), none, none, some (.aload_n 0, 1, xN), some (.aload_n 0, 1, xN), some (.getfield 164, 3, xF 0 8 3), none, none,
  some (.ifCond .eq (10), 3, xJ 58), none, none, some (.aload_n 0, 1, xN), some (.getfield 167, 3, xF 0 6 0), none, none, some (.goto (6), 3, xJ 61),
  none, none, some (.iload_n 2, 1, xN), some (.iconst 1, 1, xI (1)), some (.iadd, 1, xN), some (.putfield 167, 3, xF 0 6 0), none, none,
  some (.iload_n 1, 1, xN), some (.ireturn, 1, xN)]
def M_Mo_text : am_Me := (⟨R_Mo, "text", "()I"⟩, prog_14_method_9_code, 3, (some .int), Y_Mo, cd_Mo_text, 1, 23, 0, 0)
set_option maxRecDepth 100000 in
theorem ok_Mo_text : am_ok S_m M_Mo_text := am_ok_ofY (Y := Y_Mo) (cd := cd_Mo_text) (by decide +kernel) rfl rfl rfl oY_Mo (by decide +kernel)
def cd_Mo_pass : List (Option am_I) := [some (.aload_n 0, 1, xN), some (.aload_n 0, 1, xN), some (.getfield 164, 3, xF 0 8 3), none, none, some (.ifCond .ne (24), 3, xJ 29), none, none,
  some (.lload_n 1, 1, xN), some (.lconst 0, 1, xL 0), some (.lcmp, 1, xN), some (.ifCond .lt (18), 3, xJ 29), none, none, some (.lload_n 1, 1, xN), some (.aload_n 0, 1, xN),
  some (.getfield 170, 3, xF 0 7 0), none, none, some (.aload_n 0, 1, xN), some (.getfield 167, 3, xF 0 6 0), none, none, some (.isub, 1, xN),
  some (.i2l, 1, xN), some (.lcmp, 1, xN), some (.ifCond .le (7), 3, xJ 33), none, none, some (.iconst 1, 1, xI (1)), some (.goto (4), 3, xJ 34), none,
  none, some (.iconst 0, 1, xI (0)), some (.putfield 164, 3, xF 0 8 3), none, none, some (.aload_n 0, 1, xN), some (.aload_n 0, 1, xN), some (.getfield 164, 3, xF 0 8 3),
  none, none, some (.ifCond .eq (10), 3, xJ 52), none, none, some (.aload_n 0, 1, xN), some (.getfield 167, 3, xF 0 6 0), none,
  none, some (.goto (10), 3, xJ 59), none, none, some (.aload_n 0, 1, xN), some (.getfield 167, 3, xF 0 6 0), none, none,
  some (.lload_n 1, 1, xN), some (.l2i, 1, xN), some (.iadd, 1, xN), some (.putfield 167, 3, xF 0 6 0), none, none, some (.return_, 1, xN)]
def M_Mo_pass : am_Me := (⟨R_Mo, "pass", "(J)V"⟩, prog_14_method_10_code, 3, none, Y_Mo, cd_Mo_pass, 0, 0, 0, 0)
set_option maxRecDepth 100000 in
theorem ok_Mo_pass : am_ok S_m M_Mo_pass := am_ok_ofY (Y := Y_Mo) (cd := cd_Mo_pass) (by decide +kernel) rfl rfl rfl oY_Mo (by decide +kernel)
def cd_Mo_enter : List (Option am_I) := [some (.aload_n 0, 1, xN), some (.aload_n 0, 1, xN), some (.getfield 49, 3, xF 0 10 2), none, none, some (.iload_n 1, 1, xN), some (.iaload, 1, xN), some (.putfield 167, 3, xF 0 6 0),
  none, none, some (.aload_n 0, 1, xN), some (.aload_n 0, 1, xN), some (.getfield 167, 3, xF 0 6 0), none, none, some (.aload_n 0, 1, xN),
  some (.getfield 53, 3, xF 0 11 2), none, none, some (.iload_n 1, 1, xN), some (.iaload, 1, xN), some (.iadd, 1, xN), some (.putfield 170, 3, xF 0 7 0), none,
  none, some (.aload_n 0, 1, xN), some (.iconst 0, 1, xI (0)), some (.putfield 164, 3, xF 0 8 3), none, none, some (.aload_n 0, 1, xN), some (.lload_n 2, 1, xN),
  some (.invokevirtual 187, 3, xN), none, none, some (.return_, 1, xN)]
def M_Mo_enter : am_Me := (⟨R_Mo, "enter", "(IJ)V"⟩, prog_14_method_11_code, 4, none, Y_Mo, cd_Mo_enter, 1, 22, 0, 0)
set_option maxRecDepth 100000 in
theorem ok_Mo_enter : am_ok S_m M_Mo_enter := am_ok_ofY (Y := Y_Mo) (cd := cd_Mo_enter) (by decide +kernel) rfl rfl rfl oY_Mo (by decide +kernel)
def cd_Mo_in : List (Option am_I) := [some (.lload_n 0, 1, xN), some (.lload_n 2, 1, xN), some (.lcmp, 1, xN), some (.ifCond .lt (14), 3, xJ 17), none, none, some (.lload_n 0, 1, xN), some (.lload 4, 2, xN),
  none, some (.lcmp, 1, xN), some (.ifCond .gt (7), 3, xJ 17), none, none, some (.iconst 1, 1, xI (1)), some (.goto (4), 3, xJ 18), none,
  none, some (.iconst 0, 1, xI (0)), some (.ireturn, 1, xN)]
def M_Mo_in : am_Me := (⟨R_Mo, "in", "(JJJ)Z"⟩, prog_14_method_12_code, 6, (some .boolean), Y_Mo, cd_Mo_in, 0, 0, 0, 0)
set_option maxRecDepth 100000 in
theorem ok_Mo_in : am_ok S_m M_Mo_in := am_ok_ofY (Y := Y_Mo) (cd := cd_Mo_in) (by decide +kernel) rfl rfl rfl oY_Mo (by decide +kernel)
def cd_Mo_placeIn : List (Option am_I) := [some (.lload_n 2, 1, xN), some (.lconst 0, 1, xL 0), some (.lcmp, 1, xN), some (.ifCond .lt (30), 3, xJ 33), none, none, some (.lload_n 2, 1, xN), some (.aload_n 0, 1, xN),
  some (.getfield 53, 3, xF 0 11 2), none, none, some (.iload_n 1, 1, xN), some (.iaload, 1, xN), some (.iload 4, 2, xN), none, some (.isub, 1, xN),
  some (.i2l, 1, xN), some (.lcmp, 1, xN), some (.ifCond .gt (15), 3, xJ 33), none, none, some (.aload_n 0, 1, xN), some (.getfield 49, 3, xF 0 10 2), none,
  none, some (.iload_n 1, 1, xN), some (.iaload, 1, xN), some (.lload_n 2, 1, xN), some (.l2i, 1, xN), some (.iadd, 1, xN), some (.goto (4), 3, xJ 34), none,
  none, some (.iconst (-1), 1, xI (-1)), some (.ireturn, 1, xN)]
def M_Mo_placeIn : am_Me := (⟨R_Mo, "placeIn", "(IJI)I"⟩, prog_14_method_13_code, 5, (some .int), Y_Mo, cd_Mo_placeIn, 0, 0, 0, 0)
set_option maxRecDepth 100000 in
theorem ok_Mo_placeIn : am_ok S_m M_Mo_placeIn := am_ok_ofY (Y := Y_Mo) (cd := cd_Mo_placeIn) (by decide +kernel) rfl rfl rfl oY_Mo (by decide +kernel)
def cd_Mo_textIn : List (Option am_I) := [some (.aload_n 0, 1, xN), some (.iload_n 1, 1, xN), some (.lload_n 2, 1, xN), some (.iconst 1, 1, xI (1)), some (.invokevirtual 191, 3, xN), none, none, some (.istore 4, 2, xN),
  none, some (.iload 4, 2, xN), none, some (.iconst (-1), 1, xI (-1)), some (.if_icmp .eq (31), 3, xJ 43), none, none, some (.aload_n 0, 1, xN),
  some (.iload 4, 2, xN), none, some (.aload_n 0, 1, xN), some (.getfield 49, 3, xF 0 10 2), none, none, some (.iload_n 1, 1, xN), some (.iaload, 1, xN),
  some (.aload_n 0, 1, xN), some (.getfield 53, 3, xF 0 11 2), none, none, some (.iload_n 1, 1, xN), some (.iaload, 1, xN), some (.iadd, 1, xN), some (.invokevirtual 183, 3, xN),
  none, none, some (.iconst (-1), 1, xI (-1)), some (.if_icmp .eq (8), 3, xJ 43), none, none, some (.iload 4, 2, xN), none,
  some (.goto (4), 3, xJ 44), none, none, some (.iconst (-1), 1, xI (-1)), some (.ireturn, 1, xN)]
def M_Mo_textIn : am_Me := (⟨R_Mo, "textIn", "(IJ)I"⟩, prog_14_method_14_code, 5, (some .int), Y_Mo, cd_Mo_textIn, 1, 24, 0, 0)
set_option maxRecDepth 100000 in
theorem ok_Mo_textIn : am_ok S_m M_Mo_textIn := am_ok_ofY (Y := Y_Mo) (cd := cd_Mo_textIn) (by decide +kernel) rfl rfl rfl oY_Mo (by decide +kernel)
def cd_Mo_peek : List (Option am_I) := [some (.lconst 0, 1, xL 0), some (.lstore_n 3, 1, xN), some (.iload_n 2, 1, xN), some (.iconst 1, 1, xI (1)), some (.isub, 1, xN), some (.istore 5, 2, xN), none, some (.iload 5, 2, xN),
  none, some (.ifCond .lt (29), 3, xJ 38), none, none, some (.lload_n 3, 1, xN), some (.bipush 8, 2, xI (8)), none, some (.lshl, 1, xN),
  some (.aload_n 0, 1, xN), some (.getfield 45, 3, xF 0 2 2), none, none, some (.iload_n 1, 1, xN), some (.iload 5, 2, xN), none, some (.iadd, 1, xN),
  some (.baload, 1, xJ 2), some (.sipush 255, 3, xI (255)), none, none, some (.iand, 1, xN), some (.i2l, 1, xN), some (.lor, 1, xN), some (.lstore_n 3, 1, xN),
  some (.iinc 5 (-1), 3, xI (-1)), none, none, some (.goto (-28), 3, xJ 7), none, none, some (.lload_n 3, 1, xN), some (.lreturn, 1, xN)]
def M_Mo_peek : am_Me := (⟨R_Mo, "peek", "(II)J"⟩, prog_14_method_15_code, 6, (some .long), Y_Mo, cd_Mo_peek, 0, 0, 0, 0)
set_option maxRecDepth 100000 in
theorem ok_Mo_peek : am_ok S_m M_Mo_peek := am_ok_ofY (Y := Y_Mo) (cd := cd_Mo_peek) (by decide +kernel) rfl rfl rfl oY_Mo (by decide +kernel)
def cd_Mo_isHead : List (Option am_I) := [some (.aload_n 0, 1, xN), some (.getfield 148, 3, xF 0 3 0), none, none, some (.bipush 64, 2, xI (64)), none, some (.if_icmp .lt (70), 3, xJ 76), none,
  none, some (.aload_n 0, 1, xN), some (.iconst 0, 1, xI (0)), some (.bipush 7, 2, xI (7)), none, some (.invokevirtual 173, 3, xN), none, none,
  some (.ldc2_w 195, 3, xL (282584257676671)), none, none, some (.lcmp, 1, xN), some (.ifCond .ne (56), 3, xJ 76), none, none, some (.aload_n 0, 1, xN),
  some (.bipush 58, 2, xI (58)), none, some (.iconst 2, 1, xI (2)), some (.invokevirtual 173, 3, xN), none, none, some (.ldc2_w 197, 3, xL (64)), none,
  none, some (.lcmp, 1, xN), some (.ifCond .ne (42), 3, xJ 76), none, none, some (.aload_n 0, 1, xN), some (.bipush 60, 2, xI (60)), none,
  some (.iconst 2, 1, xI (2)), some (.invokevirtual 173, 3, xN), none, none, some (.lconst 1, 1, xL 1), some (.ldc2_w 199, 3, xL (24)), none, none,
  some (.invokestatic 201, 3, xN), none, none, some (.ifCond .eq (25), 3, xJ 76), none, none, some (.aload_n 0, 1, xN), some (.bipush 62, 2, xI (62)),
  none, some (.iconst 2, 1, xI (2)), some (.invokevirtual 173, 3, xN), none, none, some (.aload_n 0, 1, xN), some (.bipush 60, 2, xI (60)), none,
  some (.iconst 2, 1, xI (2)), some (.invokevirtual 173, 3, xN), none, none, some (.lcmp, 1, xN), some (.ifCond .ge (7), 3, xJ 76), none, none,
  some (.iconst 1, 1, xI (1)), some (.goto (4), 3, xJ 77), none, none, some (.iconst 0, 1, xI (0)), some (.ireturn, 1, xN)]
def M_Mo_isHead : am_Me := (⟨R_Mo, "isHead", "()Z"⟩, prog_14_method_16_code, 1, (some .boolean), Y_Mo, cd_Mo_isHead, 1, 25, 0, 0)
set_option maxRecDepth 100000 in
theorem ok_Mo_isHead : am_ok S_m M_Mo_isHead := am_ok_ofY (Y := Y_Mo) (cd := cd_Mo_isHead) (by decide +kernel) rfl rfl rfl oY_Mo (by decide +kernel)
def cd_Mo_isName : List (Option am_I) := [some (.iconst 0, 1, xI (0)), some (.istore 4, 2, xN), none, some (.iload 4, 2, xN), none, some (.bipush 24, 2, xI (24)), none, some (.if_icmp .ge (67), 3, xJ 74),
  none, none, some (.aload_n 0, 1, xN), some (.getfield 39, 3, xF 0 0 2), none, none, some (.iconst 3, 1, xI (3)), some (.iload_n 3, 1, xN),
  some (.imul, 1, xN), some (.iload 4, 2, xN), none, some (.bipush 8, 2, xI (8)), none, some (.idiv, 1, xN), some (.iadd, 1, xN), some (.laload, 1, xN),
  some (.bipush 8, 2, xI (8)), none, some (.iload 4, 2, xN), none, some (.bipush 8, 2, xI (8)), none, some (.irem, 1, xN), some (.imul, 1, xN),
  some (.lshr, 1, xN), some (.ldc2_w 205, 3, xL (255)), none, none, some (.land, 1, xN), some (.l2i, 1, xN), some (.istore 5, 2, xN), none,
  some (.iload 5, 2, xN), none, some (.iload_n 1, 1, xN), some (.iload 4, 2, xN), none, some (.iadd, 1, xN), some (.iload_n 2, 1, xN), some (.if_icmp .ge (15), 3, xJ 62),
  none, none, some (.aload_n 0, 1, xN), some (.getfield 45, 3, xF 0 2 2), none, none, some (.iload_n 1, 1, xN), some (.iload 4, 2, xN),
  none, some (.iadd, 1, xN), some (.baload, 1, xJ 2), some (.goto (4), 3, xJ 63), none, none, some (.iconst 0, 1, xI (0)), some (.if_icmp .eq (5), 3, xJ 68),
  none, none, some (.iconst 0, 1, xI (0)), some (.ireturn, 1, xN), some (.iinc 4 (1), 3, xI (1)), none, none, some (.goto (-68), 3, xJ 3),
  none, none, some (.iload_n 2, 1, xN), some (.iload_n 1, 1, xN), some (.isub, 1, xN), some (.bipush 24, 2, xI (24)), none, some (.if_icmp .ge (7), 3, xJ 86),
  none, none, some (.iconst 1, 1, xI (1)), some (.goto (4), 3, xJ 87), none, none, some (.iconst 0, 1, xI (0)), some (.ireturn, 1, xN)]
def M_Mo_isName : am_Me := (⟨R_Mo, "isName", "(III)Z"⟩, prog_14_method_17_code, 6, (some .boolean), Y_Mo, cd_Mo_isName, 0, 0, 0, 0)
set_option maxRecDepth 100000 in
theorem ok_Mo_isName : am_ok S_m M_Mo_isName := am_ok_ofY (Y := Y_Mo) (cd := cd_Mo_isName) (by decide +kernel) rfl rfl rfl oY_Mo (by decide +kernel)
def cd_Mo_lies : List (Option am_I) := [some (.aload_n 0, 1, xN), some (.iload_n 1, 1, xN), some (.bipush 24, 2, xI (24)), none, some (.iadd, 1, xN), some (.bipush 8, 2, xI (8)), none, some (.invokevirtual 173, 3, xN),
  none, none, some (.lstore_n 2, 1, xN), some (.aload_n 0, 1, xN), some (.iload_n 1, 1, xN), some (.bipush 32, 2, xI (32)), none, some (.iadd, 1, xN),
  some (.bipush 8, 2, xI (8)), none, some (.invokevirtual 173, 3, xN), none, none, some (.lstore 4, 2, xN), none, some (.aload_n 0, 1, xN),
  some (.iload_n 1, 1, xN), some (.iconst 4, 1, xI (4)), some (.iadd, 1, xN), some (.iconst 4, 1, xI (4)), some (.invokevirtual 173, 3, xN), none, none, some (.ldc2_w 207, 3, xL (8)),
  none, none, some (.lcmp, 1, xN), some (.ifCond .eq (32), 3, xJ 67), none, none, some (.lload_n 2, 1, xN), some (.lconst 0, 1, xL 0),
  some (.aload_n 0, 1, xN), some (.getfield 148, 3, xF 0 3 0), none, none, some (.i2l, 1, xN), some (.invokestatic 201, 3, xN), none, none,
  some (.ifCond .eq (23), 3, xJ 71), none, none, some (.lload 4, 2, xN), none, some (.lconst 0, 1, xL 0), some (.aload_n 0, 1, xN), some (.getfield 148, 3, xF 0 3 0),
  none, none, some (.i2l, 1, xN), some (.lload_n 2, 1, xN), some (.lsub, 1, xN), some (.invokestatic 201, 3, xN), none, none,
  some (.ifCond .eq (7), 3, xJ 71), none, none, some (.iconst 1, 1, xI (1)), some (.goto (4), 3, xJ 72), none, none, some (.iconst 0, 1, xI (0)),
  some (.ireturn, 1, xN)]
def M_Mo_lies : am_Me := (⟨R_Mo, "lies", "(I)Z"⟩, prog_14_method_18_code, 6, (some .boolean), Y_Mo, cd_Mo_lies, 1, 25, 0, 0)
set_option maxRecDepth 100000 in
theorem ok_Mo_lies : am_ok S_m M_Mo_lies := am_ok_ofY (Y := Y_Mo) (cd := cd_Mo_lies) (by decide +kernel) rfl rfl rfl oY_Mo (by decide +kernel)
def cd_Mo_readSections : List (Option am_I) := [some (.aload_n 0, 1, xN), some (.invokevirtual 209, 3, xN), none, none, some (.ifCond .ne (5), 3, xJ 9), none, none, some (.iconst 0, 1, xI (0)),
  some (.ireturn, 1, xN), some (.aload_n 0, 1, xN), some (.aload_n 0, 1, xN), some (.bipush 60, 2, xI (60)), none, some (.iconst 2, 1, xI (2)), some (.invokevirtual 173, 3, xN), none,
  none, some (.l2i, 1, xN), some (.putfield 213, 3, xF 0 9 0), none, none, some (.aload_n 0, 1, xN), some (.bipush 40, 2, xI (40)), none,
  some (.bipush 8, 2, xI (8)), none, some (.invokevirtual 173, 3, xN), none, none, some (.lstore_n 1, 1, xN), some (.lload_n 1, 1, xN), some (.lconst 0, 1, xL 0),
  some (.aload_n 0, 1, xN), some (.getfield 148, 3, xF 0 3 0), none, none, some (.bipush 64, 2, xI (64)), none, some (.aload_n 0, 1, xN), some (.getfield 213, 3, xF 0 9 0),
  none, none, some (.imul, 1, xN), some (.isub, 1, xN), some (.i2l, 1, xN), some (.invokestatic 201, 3, xN), none, none,
  some (.ifCond .ne (5), 3, xJ 53), none, none, some (.iconst 0, 1, xI (0)), some (.ireturn, 1, xN), some (.lload_n 1, 1, xN), some (.l2i, 1, xN), some (.istore_n 3, 1, xN),
  some (.iconst 0, 1, xI (0)), some (.istore 4, 2, xN), none, some (.iload 4, 2, xN), none, some (.bipush 10, 2, xI (10)), none, some (.if_icmp .ge (33), 3, xJ 96),
  none, none, some (.aload_n 0, 1, xN), some (.getfield 56, 3, xF 0 12 2), none, none, some (.iload 4, 2, xN), none,
  some (.iconst 0, 1, xI (0)), some (.bastore, 1, xJ 3), some (.aload_n 0, 1, xN), some (.getfield 49, 3, xF 0 10 2), none, none, some (.iload 4, 2, xN), none,
  some (.iconst 0, 1, xI (0)), some (.iastore, 1, xN), some (.aload_n 0, 1, xN), some (.getfield 53, 3, xF 0 11 2), none, none, some (.iload 4, 2, xN), none,
  some (.iconst 0, 1, xI (0)), some (.iastore, 1, xN), some (.iinc 4 (1), 3, xI (1)), none, none, some (.goto (-34), 3, xJ 59), none, none,
  some (.iconst 0, 1, xI (0)), some (.istore 4, 2, xN), none, some (.iload 4, 2, xN), none, some (.aload_n 0, 1, xN), some (.getfield 213, 3, xF 0 9 0), none,
  none, some (.if_icmp .ge (25), 3, xJ 130), none, none, some (.aload_n 0, 1, xN), some (.iload_n 3, 1, xN), some (.bipush 64, 2, xI (64)), none,
  some (.iload 4, 2, xN), none, some (.imul, 1, xN), some (.iadd, 1, xN), some (.invokevirtual 216, 3, xN), none, none, some (.ifCond .ne (5), 3, xJ 124),
  none, none, some (.iconst 0, 1, xI (0)), some (.ireturn, 1, xN), some (.iinc 4 (1), 3, xI (1)), none, none, some (.goto (-28), 3, xJ 99),
  none, none, some (.iload_n 3, 1, xN), some (.bipush 64, 2, xI (64)), none, some (.aload_n 0, 1, xN), some (.bipush 62, 2, xI (62)), none,
  some (.iconst 2, 1, xI (2)), some (.invokevirtual 173, 3, xN), none, none, some (.l2i, 1, xN), some (.imul, 1, xN), some (.iadd, 1, xN), some (.istore 4, 2, xN),
  none, some (.aload_n 0, 1, xN), some (.iload 4, 2, xN), none, some (.iconst 4, 1, xI (4)), some (.iadd, 1, xN), some (.iconst 4, 1, xI (4)), some (.invokevirtual 173, 3, xN),
  none, none, some (.ldc2_w 207, 3, xL (8)), none, none, some (.lcmp, 1, xN), some (.ifCond .ne (7), 3, xJ 165), none,
  none, some (.iconst 1, 1, xI (1)), some (.goto (4), 3, xJ 166), none, none, some (.iconst 0, 1, xI (0)), some (.istore 5, 2, xN), none,
  some (.iload 5, 2, xN), none, some (.ifCond .eq (7), 3, xJ 177), none, none, some (.iconst 0, 1, xI (0)), some (.goto (15), 3, xJ 189), none,
  none, some (.aload_n 0, 1, xN), some (.iload 4, 2, xN), none, some (.bipush 24, 2, xI (24)), none, some (.iadd, 1, xN), some (.bipush 8, 2, xI (8)),
  none, some (.invokevirtual 173, 3, xN), none, none, some (.l2i, 1, xN), some (.istore 6, 2, xN), none, some (.iload 5, 2, xN),
  none, some (.ifCond .eq (7), 3, xJ 200), none, none, some (.iconst 0, 1, xI (0)), some (.goto (18), 3, xJ 215), none, none,
  some (.iload 6, 2, xN), none, some (.aload_n 0, 1, xN), some (.iload 4, 2, xN), none, some (.bipush 32, 2, xI (32)), none, some (.iadd, 1, xN),
  some (.bipush 8, 2, xI (8)), none, some (.invokevirtual 173, 3, xN), none, none, some (.l2i, 1, xN), some (.iadd, 1, xN), some (.istore 7, 2, xN),
  none, some (.iconst 1, 1, xI (1)), some (.istore 8, 2, xN), none, some (.iconst 0, 1, xI (0)), some (.istore 9, 2, xN), none, some (.iload 9, 2, xN),
  none, some (.aload_n 0, 1, xN), some (.getfield 213, 3, xF 0 9 0), none, none, some (.if_icmp .ge (31), 3, xJ 260), none, none,
  some (.iload 8, 2, xN), none, some (.ifCond .eq (26), 3, xJ 260), none, none, some (.aload_n 0, 1, xN), some (.iload_n 3, 1, xN), some (.bipush 64, 2, xI (64)),
  none, some (.iload 9, 2, xN), none, some (.imul, 1, xN), some (.iadd, 1, xN), some (.iload 6, 2, xN), none, some (.iload 7, 2, xN),
  none, some (.invokevirtual 220, 3, xN), none, none, some (.istore 8, 2, xN), none, some (.iinc 9 (1), 3, xI (1)), none,
  none, some (.goto (-34), 3, xJ 223), none, none, some (.iload 8, 2, xN), none, some (.ireturn, 1, xN)]
def M_Mo_readSections : am_Me := (⟨R_Mo, "readSections", "()Z"⟩, prog_14_method_19_code, 10, (some .boolean), Y_Mo, cd_Mo_readSections, 2, 54, 0, 0)
set_option maxRecDepth 100000 in
theorem ok_Mo_readSections : am_ok S_m M_Mo_readSections := am_ok_ofY (Y := Y_Mo) (cd := cd_Mo_readSections) (by decide +kernel) rfl rfl rfl oY_Mo (by decide +kernel)
def cd_Mo_names : List (Option am_I) := [some (.aload_n 0, 1, xN), some (.iload_n 1, 1, xN), some (.iconst 4, 1, xI (4)), some (.invokevirtual 173, 3, xN), none, none, some (.lstore 4, 2, xN), none,
  some (.lload 4, 2, xN), none, some (.iload_n 3, 1, xN), some (.iload_n 2, 1, xN), some (.isub, 1, xN), some (.i2l, 1, xN), some (.lcmp, 1, xN), some (.ifCond .lt (5), 3, xJ 20),
  none, none, some (.iconst 0, 1, xI (0)), some (.ireturn, 1, xN), some (.iload_n 2, 1, xN), some (.lload 4, 2, xN), none, some (.l2i, 1, xN),
  some (.iadd, 1, xN), some (.istore 6, 2, xN), none, some (.aload_n 0, 1, xN), some (.iload 6, 2, xN), none, some (.iload_n 3, 1, xN), some (.invokevirtual 183, 3, xN),
  none, none, some (.istore 7, 2, xN), none, some (.iconst 0, 1, xI (0)), some (.istore 8, 2, xN), none, some (.iload 8, 2, xN),
  none, some (.bipush 10, 2, xI (10)), none, some (.if_icmp .ge (122), 3, xJ 165), none, none, some (.iload 7, 2, xN), none,
  some (.iconst (-1), 1, xI (-1)), some (.if_icmp .eq (116), 3, xJ 165), none, none, some (.aload_n 0, 1, xN), some (.getfield 56, 3, xF 0 12 2), none, none,
  some (.iload 8, 2, xN), none, some (.baload, 1, xJ 3), some (.ifCond .ne (100), 3, xJ 159), none, none, some (.aload_n 0, 1, xN), some (.iload 6, 2, xN),
  none, some (.iload 7, 2, xN), none, some (.iload 8, 2, xN), none, some (.invokevirtual 224, 3, xN), none, none,
  some (.ifCond .eq (87), 3, xJ 159), none, none, some (.aload_n 0, 1, xN), some (.iload_n 1, 1, xN), some (.iconst 4, 1, xI (4)), some (.iadd, 1, xN), some (.iconst 4, 1, xI (4)),
  some (.invokevirtual 173, 3, xN), none, none, some (.ldc2_w 207, 3, xL (8)), none, none, some (.lcmp, 1, xN), some (.ifCond .ne (7), 3, xJ 94),
  none, none, some (.iconst 1, 1, xI (1)), some (.goto (4), 3, xJ 95), none, none, some (.iconst 0, 1, xI (0)), some (.istore 9, 2, xN),
  none, some (.aload_n 0, 1, xN), some (.getfield 56, 3, xF 0 12 2), none, none, some (.iload 8, 2, xN), none, some (.iconst 1, 1, xI (1)),
  some (.bastore, 1, xJ 3), some (.aload_n 0, 1, xN), some (.getfield 49, 3, xF 0 10 2), none, none, some (.iload 8, 2, xN), none, some (.iload 9, 2, xN),
  none, some (.ifCond .eq (7), 3, xJ 120), none, none, some (.iconst 0, 1, xI (0)), some (.goto (14), 3, xJ 131), none, none,
  some (.aload_n 0, 1, xN), some (.iload_n 1, 1, xN), some (.bipush 24, 2, xI (24)), none, some (.iadd, 1, xN), some (.bipush 8, 2, xI (8)), none, some (.invokevirtual 173, 3, xN),
  none, none, some (.l2i, 1, xN), some (.iastore, 1, xN), some (.aload_n 0, 1, xN), some (.getfield 53, 3, xF 0 11 2), none, none,
  some (.iload 8, 2, xN), none, some (.iload 9, 2, xN), none, some (.ifCond .eq (7), 3, xJ 147), none, none, some (.iconst 0, 1, xI (0)),
  some (.goto (14), 3, xJ 158), none, none, some (.aload_n 0, 1, xN), some (.iload_n 1, 1, xN), some (.bipush 32, 2, xI (32)), none, some (.iadd, 1, xN),
  some (.bipush 8, 2, xI (8)), none, some (.invokevirtual 173, 3, xN), none, none, some (.l2i, 1, xN), some (.iastore, 1, xN), some (.iinc 8 (1), 3, xI (1)),
  none, none, some (.goto (-123), 3, xJ 39), none, none, some (.iload 7, 2, xN), none, some (.iconst (-1), 1, xI (-1)),
  some (.if_icmp .eq (7), 3, xJ 175), none, none, some (.iconst 1, 1, xI (1)), some (.goto (4), 3, xJ 176), none, none, some (.iconst 0, 1, xI (0)),
  some (.ireturn, 1, xN)]
def M_Mo_names : am_Me := (⟨R_Mo, "names", "(III)Z"⟩, prog_14_method_20_code, 10, (some .boolean), Y_Mo, cd_Mo_names, 1, 25, 0, 0)
set_option maxRecDepth 100000 in
theorem ok_Mo_names : am_ok S_m M_Mo_names := am_ok_ofY (Y := Y_Mo) (cd := cd_Mo_names) (by decide +kernel) rfl rfl rfl oY_Mo (by decide +kernel)
def cd_Mo_isForm : List (Option am_I) := [some (.lload_n 0, 1, xN), some (.lconst 0, 1, xL 0), some (.lcmp, 1, xN), some (.ifCond .lt (11), 3, xJ 14), none, none, some (.lload_n 0, 1, xN), some (.ldc2_w 205, 3, xL (255)),
  none, none, some (.lcmp, 1, xN), some (.ifCond .le (7), 3, xJ 18), none, none, some (.lconst 0, 1, xL 0), some (.goto (4), 3, xJ 19),
  none, none, some (.lload_n 0, 1, xN), some (.l2i, 1, xN), some (.tableswitch (168) (1) (37) #[164, 168, 168, 168, 164, 164, 164, 164, 168, 168, 164, 168, 164, 164, 164, 168, 168, 168, 166, 168, 168, 168, 166, 166, 166, 168, 166, 168, 168, 168, 166, 168, 166, 168, 166, 168, 166], 164, xN), none, none, none,
  none, none, none, none, none, none, none, none,
  none, none, none, none, none, none, none, none,
  none, none, none, none, none, none, none, none,
  none, none, none, none, none, none, none, none,
  none, none, none, none, none, none, none, none,
  none, none, none, none, none, none, none, none,
  none, none, none, none, none, none, none, none,
  none, none, none, none, none, none, none, none,
  none, none, none, none, none, none, none, none,
  none, none, none, none, none, none, none, none,
  none, none, none, none, none, none, none, none,
  none, none, none, none, none, none, none, none,
  none, none, none, none, none, none, none, none,
  none, none, none, none, none, none, none, none,
  none, none, none, none, none, none, none, none,
  none, none, none, none, none, none, none, none,
  none, none, none, none, none, none, none, none,
  none, none, none, none, none, none, none, none,
  none, none, none, none, none, none, none, none,
  none, none, none, none, none, none, none, none,
  some (.iconst 1, 1, xI (1)), some (.ireturn, 1, xN), some (.iconst 1, 1, xI (1)), some (.ireturn, 1, xN), some (.iconst 0, 1, xI (0)), some (.ireturn, 1, xN)]
def M_Mo_isForm : am_Me := (⟨R_Mo, "isForm", "(J)Z"⟩, prog_14_method_21_code, 2, (some .boolean), Y_Mo, cd_Mo_isForm, 0, 0, 0, 0)
set_option maxRecDepth 100000 in
theorem ok_Mo_isForm : am_ok S_m M_Mo_isForm := am_ok_ofY (Y := Y_Mo) (cd := cd_Mo_isForm) (by decide +kernel) rfl rfl rfl oY_Mo (by decide +kernel)
def cd_Mo_readAttributes : List (Option am_I) := [some (.aload_n 0, 1, xN), some (.getfield 75, 3, xF 0 19 2), none, none, some (.iload_n 1, 1, xN), some (.iconst 0, 1, xI (0)), some (.iastore, 1, xN), some (.iconst 1, 1, xI (1)),
  some (.istore_n 2, 1, xN), some (.iload_n 2, 1, xN), some (.ifCond .eq (140), 3, xJ 150), none, none, some (.aload_n 0, 1, xN), some (.iconst 0, 1, xI (0)), some (.invokevirtual 227, 3, xN),
  none, none, some (.lstore_n 3, 1, xN), some (.aload_n 0, 1, xN), some (.iconst 0, 1, xI (0)), some (.invokevirtual 227, 3, xN), none, none,
  some (.lstore 5, 2, xN), none, some (.aload_n 0, 1, xN), some (.getfield 164, 3, xF 0 8 3), none, none, some (.ifCond .ne (20), 3, xJ 50), none,
  none, some (.lload_n 3, 1, xN), some (.lconst 0, 1, xL 0), some (.lcmp, 1, xN), some (.ifCond .ne (10), 3, xJ 46), none, none, some (.lload 5, 2, xN),
  none, some (.lconst 0, 1, xL 0), some (.lcmp, 1, xN), some (.ifCond .eq (7), 3, xJ 50), none, none, some (.iconst 1, 1, xI (1)), some (.goto (4), 3, xJ 51),
  none, none, some (.iconst 0, 1, xI (0)), some (.istore_n 2, 1, xN), some (.iload_n 2, 1, xN), some (.ifCond .eq (24), 3, xJ 77), none, none,
  some (.aload_n 0, 1, xN), some (.getfield 75, 3, xF 0 19 2), none, none, some (.iload_n 1, 1, xN), some (.iaload, 1, xN), some (.bipush 12, 2, xI (12)), none,
  some (.if_icmp .eq (11), 3, xJ 75), none, none, some (.lload 5, 2, xN), none, some (.invokestatic 231, 3, xN), none, none,
  some (.ifCond .ne (5), 3, xJ 77), none, none, some (.iconst 0, 1, xI (0)), some (.ireturn, 1, xN), some (.iload_n 2, 1, xN), some (.ifCond .eq (69), 3, xJ 147), none,
  none, some (.bipush 12, 2, xI (12)), none, some (.iload_n 1, 1, xN), some (.imul, 1, xN), some (.aload_n 0, 1, xN), some (.getfield 75, 3, xF 0 19 2), none,
  none, some (.iload_n 1, 1, xN), some (.iaload, 1, xN), some (.iadd, 1, xN), some (.istore 7, 2, xN), none, some (.aload_n 0, 1, xN), some (.getfield 66, 3, xF 0 16 2),
  none, none, some (.iload 7, 2, xN), none, some (.lload_n 3, 1, xN), some (.lastore, 1, xN), some (.aload_n 0, 1, xN), some (.getfield 78, 3, xF 0 20 2),
  none, none, some (.iload 7, 2, xN), none, some (.lload 5, 2, xN), none, some (.l2i, 1, xN), some (.iastore, 1, xN),
  some (.aload_n 0, 1, xN), some (.getfield 69, 3, xF 0 17 2), none, none, some (.iload 7, 2, xN), none, some (.lload 5, 2, xN), none,
  some (.ldc2_w 235, 3, xL (33)), none, none, some (.lcmp, 1, xN), some (.ifCond .ne (11), 3, xJ 135), none, none, some (.aload_n 0, 1, xN),
  some (.iconst 1, 1, xI (1)), some (.invokevirtual 227, 3, xN), none, none, some (.goto (4), 3, xJ 136), none, none, some (.lconst 0, 1, xL 0),
  some (.lastore, 1, xN), some (.aload_n 0, 1, xN), some (.getfield 75, 3, xF 0 19 2), none, none, some (.iload_n 1, 1, xN), some (.dup2, 1, xN), some (.iaload, 1, xN),
  some (.iconst 1, 1, xI (1)), some (.iadd, 1, xN), some (.iastore, 1, xN), some (.goto (-138), 3, xJ 9), none, none, some (.aload_n 0, 1, xN), some (.getfield 164, 3, xF 0 8 3),
  none, none, some (.ifCond .ne (7), 3, xJ 161), none, none, some (.iconst 1, 1, xI (1)), some (.goto (4), 3, xJ 162), none,
  none, some (.iconst 0, 1, xI (0)), some (.ireturn, 1, xN)]
def M_Mo_readAttributes : am_Me := (⟨R_Mo, "readAttributes", "(I)Z"⟩, prog_14_method_22_code, 8, (some .boolean), Y_Mo, cd_Mo_readAttributes, 3, 71, 0, 0)
set_option maxRecDepth 100000 in
theorem ok_Mo_readAttributes : am_ok S_m M_Mo_readAttributes := am_ok_ofY (Y := Y_Mo) (cd := cd_Mo_readAttributes) (by decide +kernel) rfl rfl rfl oY_Mo (by decide +kernel)
def cd_Mo_abbreviation : List (Option am_I) := [some (.iconst 0, 1, xI (0)), some (.istore_n 3, 1, xN), some (.iload_n 3, 1, xN), some (.aload_n 0, 1, xN), some (.getfield 237, 3, xF 0 13 0), none, none, some (.if_icmp .ge (22), 3, xJ 29),
  none, none, some (.aload_n 0, 1, xN), some (.getfield 60, 3, xF 0 14 2), none, none, some (.iload_n 3, 1, xN), some (.laload, 1, xN),
  some (.lload_n 1, 1, xN), some (.lcmp, 1, xN), some (.ifCond .ne (5), 3, xJ 23), none, none, some (.iload_n 3, 1, xN), some (.ireturn, 1, xN), some (.iinc 3 (1), 3, xI (1)),
  none, none, some (.goto (-24), 3, xJ 2), none, none, some (.iconst (-1), 1, xI (-1)), some (.ireturn, 1, xN)]
def M_Mo_abbreviation : am_Me := (⟨R_Mo, "abbreviation", "(J)I"⟩, prog_14_method_23_code, 4, (some .int), Y_Mo, cd_Mo_abbreviation, 0, 0, 0, 0)
set_option maxRecDepth 100000 in
theorem ok_Mo_abbreviation : am_ok S_m M_Mo_abbreviation := am_ok_ofY (Y := Y_Mo) (cd := cd_Mo_abbreviation) (by decide +kernel) rfl rfl rfl oY_Mo (by decide +kernel)
def cd_Mo_readAbbreviations : List (Option am_I) := [some (.aload_n 0, 1, xN), some (.iconst 0, 1, xI (0)), some (.lload_n 1, 1, xN), some (.invokevirtual 240, 3, xN), none, none, some (.aload_n 0, 1, xN), some (.iconst 0, 1, xI (0)),
  some (.putfield 237, 3, xF 0 13 0), none, none, some (.iconst 1, 1, xI (1)), some (.istore_n 3, 1, xN), some (.iconst 1, 1, xI (1)), some (.istore 4, 2, xN), none,
  some (.iload 4, 2, xN), none, some (.ifCond .eq (171), 3, xJ 189), none, none, some (.iload_n 3, 1, xN), some (.ifCond .eq (167), 3, xJ 189), none,
  none, some (.aload_n 0, 1, xN), some (.iconst 0, 1, xI (0)), some (.invokevirtual 227, 3, xN), none, none, some (.lstore 5, 2, xN), none,
  some (.aload_n 0, 1, xN), some (.getfield 164, 3, xF 0 8 3), none, none, some (.ifCond .ne (14), 3, xJ 50), none, none, some (.lload 5, 2, xN),
  none, some (.lconst 0, 1, xL 0), some (.lcmp, 1, xN), some (.ifCond .eq (7), 3, xJ 50), none, none, some (.iconst 1, 1, xI (1)), some (.goto (4), 3, xJ 51),
  none, none, some (.iconst 0, 1, xI (0)), some (.istore 4, 2, xN), none, some (.aload_n 0, 1, xN), some (.getfield 164, 3, xF 0 8 3), none,
  none, some (.ifCond .ne (31), 3, xJ 88), none, none, some (.iload 4, 2, xN), none, some (.ifCond .eq (22), 3, xJ 84), none,
  none, some (.aload_n 0, 1, xN), some (.getfield 237, 3, xF 0 13 0), none, none, some (.bipush 40, 2, xI (40)), none, some (.if_icmp .ge (17), 3, xJ 88),
  none, none, some (.aload_n 0, 1, xN), some (.lload 5, 2, xN), none, some (.invokevirtual 244, 3, xN), none, none,
  some (.iconst (-1), 1, xI (-1)), some (.if_icmp .ne (7), 3, xJ 88), none, none, some (.iconst 1, 1, xI (1)), some (.goto (4), 3, xJ 89), none, none,
  some (.iconst 0, 1, xI (0)), some (.istore_n 3, 1, xN), some (.iload 4, 2, xN), none, some (.ifCond .eq (94), 3, xJ 186), none, none, some (.iload_n 3, 1, xN),
  some (.ifCond .eq (90), 3, xJ 186), none, none, some (.aload_n 0, 1, xN), some (.getfield 237, 3, xF 0 13 0), none, none, some (.istore 7, 2, xN),
  none, some (.aload_n 0, 1, xN), some (.getfield 60, 3, xF 0 14 2), none, none, some (.iload 7, 2, xN), none, some (.lload 5, 2, xN),
  none, some (.lastore, 1, xN), some (.aload_n 0, 1, xN), some (.getfield 63, 3, xF 0 15 2), none, none, some (.iload 7, 2, xN), none,
  some (.aload_n 0, 1, xN), some (.iconst 0, 1, xI (0)), some (.invokevirtual 227, 3, xN), none, none, some (.lastore, 1, xN), some (.aload_n 0, 1, xN), some (.iconst 1, 1, xI (1)),
  some (.invokevirtual 177, 3, xN), none, none, some (.lstore 8, 2, xN), none, some (.aload_n 0, 1, xN), some (.getfield 72, 3, xF 0 18 2), none,
  none, some (.iload 7, 2, xN), none, some (.lload 8, 2, xN), none, some (.lconst 1, 1, xL 1), some (.lcmp, 1, xN), some (.ifCond .ne (7), 3, xJ 150),
  none, none, some (.iconst 1, 1, xI (1)), some (.goto (4), 3, xJ 151), none, none, some (.iconst 0, 1, xI (0)), some (.bastore, 1, xJ 3),
  some (.lload 8, 2, xN), none, some (.ldc2_w 248, 3, xL (2)), none, none, some (.lcmp, 1, xN), some (.ifCond .ge (16), 3, xJ 174), none,
  none, some (.aload_n 0, 1, xN), some (.iload 7, 2, xN), none, some (.invokevirtual 250, 3, xN), none, none, some (.ifCond .eq (7), 3, xJ 174),
  none, none, some (.iconst 1, 1, xI (1)), some (.goto (4), 3, xJ 175), none, none, some (.iconst 0, 1, xI (0)), some (.istore_n 3, 1, xN),
  some (.aload_n 0, 1, xN), some (.dup, 1, xN), some (.getfield 237, 3, xF 0 13 0), none, none, some (.iconst 1, 1, xI (1)), some (.iadd, 1, xN), some (.putfield 237, 3, xF 0 13 0),
  none, none, some (.goto (-170), 3, xJ 16), none, none, some (.iload_n 3, 1, xN), some (.ireturn, 1, xN)]
def M_Mo_readAbbreviations : am_Me := (⟨R_Mo, "readAbbreviations", "(J)Z"⟩, prog_14_method_24_code, 10, (some .boolean), Y_Mo, cd_Mo_readAbbreviations, 4, 98, 0, 0)
set_option maxRecDepth 100000 in
theorem ok_Mo_readAbbreviations : am_ok S_m M_Mo_readAbbreviations := am_ok_ofY (Y := Y_Mo) (cd := cd_Mo_readAbbreviations) (by decide +kernel) rfl rfl rfl oY_Mo (by decide +kernel)
def cd_Mo_known : List (Option am_I) := [some (.lload_n 0, 1, xN), some (.lconst 0, 1, xL 0), some (.lcmp, 1, xN), some (.ifCond .lt (11), 3, xJ 14), none, none, some (.lload_n 0, 1, xN), some (.ldc2_w 205, 3, xL (255)),
  none, none, some (.lcmp, 1, xN), some (.ifCond .le (7), 3, xJ 18), none, none, some (.lconst 0, 1, xL 0), some (.goto (4), 3, xJ 19),
  none, none, some (.lload_n 0, 1, xN), some (.l2i, 1, xN), some (.lookupswitch (127) #[(3, 100), (16, 115), (17, 102), (18, 104), (49, 108), (85, 106), (88, 110), (89, 112), (114, 118), (115, 121), (116, 124)], 100, xN), none, none, none,
  none, none, none, none, none, none, none, none,
  none, none, none, none, none, none, none, none,
  none, none, none, none, none, none, none, none,
  none, none, none, none, none, none, none, none,
  none, none, none, none, none, none, none, none,
  none, none, none, none, none, none, none, none,
  none, none, none, none, none, none, none, none,
  none, none, none, none, none, none, none, none,
  none, none, none, none, none, none, none, none,
  none, none, none, none, none, none, none, none,
  none, none, none, none, none, none, none, none,
  none, none, none, none, none, none, none, none,
  some (.iconst 0, 1, xI (0)), some (.ireturn, 1, xN), some (.iconst 1, 1, xI (1)), some (.ireturn, 1, xN), some (.iconst 2, 1, xI (2)), some (.ireturn, 1, xN), some (.iconst 3, 1, xI (3)), some (.ireturn, 1, xN),
  some (.iconst 4, 1, xI (4)), some (.ireturn, 1, xN), some (.iconst 5, 1, xI (5)), some (.ireturn, 1, xN), some (.bipush 6, 2, xI (6)), none, some (.ireturn, 1, xN), some (.bipush 7, 2, xI (7)),
  none, some (.ireturn, 1, xN), some (.bipush 8, 2, xI (8)), none, some (.ireturn, 1, xN), some (.bipush 9, 2, xI (9)), none, some (.ireturn, 1, xN),
  some (.bipush 10, 2, xI (10)), none, some (.ireturn, 1, xN), some (.iconst (-1), 1, xI (-1)), some (.ireturn, 1, xN)]
def M_Mo_known : am_Me := (⟨R_Mo, "known", "(J)I"⟩, prog_14_method_25_code, 2, (some .int), Y_Mo, cd_Mo_known, 0, 0, 0, 0)
set_option maxRecDepth 100000 in
theorem ok_Mo_known : am_ok S_m M_Mo_known := am_ok_ofY (Y := Y_Mo) (cd := cd_Mo_known) (by decide +kernel) rfl rfl rfl oY_Mo (by decide +kernel)
def cd_Mo_readValue : List (Option am_I) := [some (.iload_n 1, 1, xN), some (.tableswitch (210) (1) (37) #[163, 210, 210, 210, 176, 182, 163, 204, 210, 210, 170, 210, 188, 182, 194, 210, 210, 210, 182, 210, 210, 210, 182, 210, 202, 210, 194, 210, 210, 210, 182, 210, 200, 210, 194, 210, 170], 163, xN), none, none, none, none, none, none,
  none, none, none, none, none, none, none, none,
  none, none, none, none, none, none, none, none,
  none, none, none, none, none, none, none, none,
  none, none, none, none, none, none, none, none,
  none, none, none, none, none, none, none, none,
  none, none, none, none, none, none, none, none,
  none, none, none, none, none, none, none, none,
  none, none, none, none, none, none, none, none,
  none, none, none, none, none, none, none, none,
  none, none, none, none, none, none, none, none,
  none, none, none, none, none, none, none, none,
  none, none, none, none, none, none, none, none,
  none, none, none, none, none, none, none, none,
  none, none, none, none, none, none, none, none,
  none, none, none, none, none, none, none, none,
  none, none, none, none, none, none, none, none,
  none, none, none, none, none, none, none, none,
  none, none, none, none, none, none, none, none,
  none, none, none, none, none, none, none, none,
  none, none, none, none, some (.aload_n 0, 1, xN), some (.bipush 8, 2, xI (8)), none, some (.invokevirtual 177, 3, xN),
  none, none, some (.lreturn, 1, xN), some (.aload_n 0, 1, xN), some (.iconst 1, 1, xI (1)), some (.invokevirtual 177, 3, xN), none, none,
  some (.lreturn, 1, xN), some (.aload_n 0, 1, xN), some (.iconst 2, 1, xI (2)), some (.invokevirtual 177, 3, xN), none, none, some (.lreturn, 1, xN), some (.aload_n 0, 1, xN),
  some (.iconst 4, 1, xI (4)), some (.invokevirtual 177, 3, xN), none, none, some (.lreturn, 1, xN), some (.aload_n 0, 1, xN), some (.iconst 1, 1, xI (1)), some (.invokevirtual 227, 3, xN),
  none, none, some (.lreturn, 1, xN), some (.aload_n 0, 1, xN), some (.iconst 0, 1, xI (0)), some (.invokevirtual 227, 3, xN), none, none,
  some (.lreturn, 1, xN), some (.lload_n 2, 1, xN), some (.lreturn, 1, xN), some (.lconst 1, 1, xL 1), some (.lreturn, 1, xN), some (.aload_n 0, 1, xN), some (.invokevirtual 253, 3, xN), none,
  none, some (.i2l, 1, xN), some (.lreturn, 1, xN), some (.aload_n 0, 1, xN), some (.aload_n 0, 1, xN), some (.iconst 0, 1, xI (0)), some (.invokevirtual 227, 3, xN), none,
  none, some (.invokevirtual 187, 3, xN), none, none, some (.lconst 0, 1, xL 0), some (.lreturn, 1, xN)]
def M_Mo_readValue : am_Me := (⟨R_Mo, "readValue", "(IJ)J"⟩, prog_14_method_26_code, 4, (some .long), Y_Mo, cd_Mo_readValue, 3, 71, 0, 0)
set_option maxRecDepth 100000 in
theorem ok_Mo_readValue : am_ok S_m M_Mo_readValue := am_ok_ofY (Y := Y_Mo) (cd := cd_Mo_readValue) (by decide +kernel) rfl rfl rfl oY_Mo (by decide +kernel)
def cd_Mo_readEntry : List (Option am_I) := [some (.aload_n 0, 1, xN), some (.getfield 257, 3, xF 0 22 0), none, none, some (.istore_n 3, 1, xN), some (.aload_n 0, 1, xN), some (.getfield 90, 3, xF 0 27 2), none,
  none, some (.iload_n 3, 1, xN), some (.iload_n 1, 1, xN), some (.iastore, 1, xN), some (.aload_n 0, 1, xN), some (.getfield 93, 3, xF 0 28 2), none, none,
  some (.iload_n 3, 1, xN), some (.aload_n 0, 1, xN), some (.getfield 63, 3, xF 0 15 2), none, none, some (.iload_n 2, 1, xN), some (.laload, 1, xN), some (.lconst 0, 1, xL 0),
  some (.ldc2_w 205, 3, xL (255)), none, none, some (.invokestatic 201, 3, xN), none, none, some (.ifCond .eq (12), 3, xJ 42), none,
  none, some (.aload_n 0, 1, xN), some (.getfield 63, 3, xF 0 15 2), none, none, some (.iload_n 2, 1, xN), some (.laload, 1, xN), some (.goto (4), 3, xJ 43),
  none, none, some (.lconst 0, 1, xL 0), some (.l2i, 1, xN), some (.iastore, 1, xN), some (.aload_n 0, 1, xN), some (.getfield 96, 3, xF 0 29 2), none,
  none, some (.iload_n 3, 1, xN), some (.aload_n 0, 1, xN), some (.getfield 260, 3, xF 0 23 0), none, none, some (.ifCond .ne (7), 3, xJ 61), none,
  none, some (.iconst (-1), 1, xI (-1)), some (.goto (14), 3, xJ 72), none, none, some (.aload_n 0, 1, xN), some (.getfield 87, 3, xF 0 26 2), none,
  none, some (.aload_n 0, 1, xN), some (.getfield 260, 3, xF 0 23 0), none, none, some (.iconst 1, 1, xI (1)), some (.isub, 1, xN), some (.iaload, 1, xN),
  some (.iastore, 1, xN), some (.aload_n 0, 1, xN), some (.getfield 99, 3, xF 0 30 2), none, none, some (.iload_n 3, 1, xN), some (.aload_n 0, 1, xN), some (.getfield 263, 3, xF 0 21 0),
  none, none, some (.iconst 1, 1, xI (1)), some (.isub, 1, xN), some (.iastore, 1, xN), some (.iconst 0, 1, xI (0)), some (.istore 4, 2, xN), none,
  some (.iload 4, 2, xN), none, some (.bipush 11, 2, xI (11)), none, some (.if_icmp .ge (22), 3, xJ 114), none, none, some (.aload_n 0, 1, xN),
  some (.getfield 102, 3, xF 0 31 2), none, none, some (.bipush 11, 2, xI (11)), none, some (.iload_n 3, 1, xN), some (.imul, 1, xN), some (.iload 4, 2, xN),
  none, some (.iadd, 1, xN), some (.iconst 0, 1, xI (0)), some (.iastore, 1, xN), some (.iinc 4 (1), 3, xI (1)), none, none, some (.goto (-23), 3, xJ 88),
  none, none, some (.bipush 12, 2, xI (12)), none, some (.iload_n 2, 1, xN), some (.imul, 1, xN), some (.istore 4, 2, xN), none,
  some (.iload 4, 2, xN), none, some (.bipush 12, 2, xI (12)), none, some (.iload_n 2, 1, xN), some (.imul, 1, xN), some (.aload_n 0, 1, xN), some (.getfield 75, 3, xF 0 19 2),
  none, none, some (.iload_n 2, 1, xN), some (.iaload, 1, xN), some (.iadd, 1, xN), some (.if_icmp .ge (102), 3, xJ 235), none, none,
  some (.aload_n 0, 1, xN), some (.getfield 164, 3, xF 0 8 3), none, none, some (.ifCond .ne (95), 3, xJ 235), none, none, some (.aload_n 0, 1, xN),
  some (.aload_n 0, 1, xN), some (.getfield 78, 3, xF 0 20 2), none, none, some (.iload 4, 2, xN), none, some (.iaload, 1, xN), some (.aload_n 0, 1, xN),
  some (.getfield 69, 3, xF 0 17 2), none, none, some (.iload 4, 2, xN), none, some (.laload, 1, xN), some (.invokevirtual 266, 3, xN), none,
  none, some (.lstore 5, 2, xN), none, some (.aload_n 0, 1, xN), some (.getfield 66, 3, xF 0 16 2), none, none, some (.iload 4, 2, xN),
  none, some (.laload, 1, xN), some (.invokestatic 270, 3, xN), none, none, some (.istore 7, 2, xN), none, some (.iload 7, 2, xN),
  none, some (.iconst (-1), 1, xI (-1)), some (.if_icmp .eq (51), 3, xJ 229), none, none, some (.aload_n 0, 1, xN), some (.getfield 102, 3, xF 0 31 2), none,
  none, some (.bipush 11, 2, xI (11)), none, some (.iload_n 3, 1, xN), some (.imul, 1, xN), some (.iload 7, 2, xN), none, some (.iadd, 1, xN),
  some (.iaload, 1, xN), some (.ifCond .ne (36), 3, xJ 229), none, none, some (.aload_n 0, 1, xN), some (.getfield 102, 3, xF 0 31 2), none, none,
  some (.bipush 11, 2, xI (11)), none, some (.iload_n 3, 1, xN), some (.imul, 1, xN), some (.iload 7, 2, xN), none, some (.iadd, 1, xN), some (.aload_n 0, 1, xN),
  some (.getfield 78, 3, xF 0 20 2), none, none, some (.iload 4, 2, xN), none, some (.iaload, 1, xN), some (.iastore, 1, xN), some (.aload_n 0, 1, xN),
  some (.getfield 105, 3, xF 0 32 2), none, none, some (.bipush 11, 2, xI (11)), none, some (.iload_n 3, 1, xN), some (.imul, 1, xN), some (.iload 7, 2, xN),
  none, some (.iadd, 1, xN), some (.lload 5, 2, xN), none, some (.lastore, 1, xN), some (.iinc 4 (1), 3, xI (1)), none, none,
  some (.goto (-112), 3, xJ 120), none, none, some (.aload_n 0, 1, xN), some (.dup, 1, xN), some (.getfield 257, 3, xF 0 22 0), none, none,
  some (.iconst 1, 1, xI (1)), some (.iadd, 1, xN), some (.putfield 257, 3, xF 0 22 0), none, none, some (.return_, 1, xN)]
def M_Mo_readEntry : am_Me := (⟨R_Mo, "readEntry", "(II)V"⟩, prog_14_method_27_code, 8, none, Y_Mo, cd_Mo_readEntry, 4, 94, 0, 0)
set_option maxRecDepth 100000 in
theorem ok_Mo_readEntry : am_ok S_m M_Mo_readEntry := am_ok_ofY (Y := Y_Mo) (cd := cd_Mo_readEntry) (by decide +kernel) rfl rfl rfl oY_Mo (by decide +kernel)
def cd_Mo_readEntries : List (Option am_I) := [some (.aload_n 0, 1, xN), some (.getfield 257, 3, xF 0 22 0), none, none, some (.istore_n 1, 1, xN), some (.aload_n 0, 1, xN), some (.iconst 0, 1, xI (0)), some (.putfield 260, 3, xF 0 23 0),
  none, none, some (.iconst 1, 1, xI (1)), some (.istore_n 2, 1, xN), some (.iload_n 2, 1, xN), some (.ifCond .eq (257), 3, xJ 270), none, none,
  some (.aload_n 0, 1, xN), some (.getfield 167, 3, xF 0 6 0), none, none, some (.aload_n 0, 1, xN), some (.getfield 170, 3, xF 0 7 0), none, none,
  some (.if_icmp .ge (246), 3, xJ 270), none, none, some (.aload_n 0, 1, xN), some (.getfield 167, 3, xF 0 6 0), none, none, some (.istore_n 3, 1, xN),
  some (.aload_n 0, 1, xN), some (.iconst 0, 1, xI (0)), some (.invokevirtual 227, 3, xN), none, none, some (.lstore 4, 2, xN), none, some (.aload_n 0, 1, xN),
  some (.getfield 164, 3, xF 0 8 3), none, none, some (.ifCond .ne (10), 3, xJ 53), none, none, some (.lload 4, 2, xN), none,
  some (.lconst 0, 1, xL 0), some (.lcmp, 1, xN), some (.ifCond .ne (7), 3, xJ 57), none, none, some (.iconst (-1), 1, xI (-1)), some (.goto (9), 3, xJ 63), none,
  none, some (.aload_n 0, 1, xN), some (.lload 4, 2, xN), none, some (.invokevirtual 244, 3, xN), none, none, some (.istore 6, 2, xN),
  none, some (.aload_n 0, 1, xN), some (.getfield 164, 3, xF 0 8 3), none, none, some (.ifCond .ne (36), 3, xJ 105), none, none,
  some (.lload 4, 2, xN), none, some (.lconst 0, 1, xL 0), some (.lcmp, 1, xN), some (.ifCond .ne (29), 3, xJ 105), none, none, some (.aload_n 0, 1, xN),
  some (.getfield 260, 3, xF 0 23 0), none, none, some (.ifCond .le (7), 3, xJ 90), none, none, some (.iconst 1, 1, xI (1)), some (.goto (4), 3, xJ 91),
  none, none, some (.iconst 0, 1, xI (0)), some (.istore_n 2, 1, xN), some (.aload_n 0, 1, xN), some (.dup, 1, xN), some (.getfield 260, 3, xF 0 23 0), none,
  none, some (.iconst 1, 1, xI (1)), some (.isub, 1, xN), some (.putfield 260, 3, xF 0 23 0), none, none, some (.goto (165), 3, xJ 267), none,
  none, some (.aload_n 0, 1, xN), some (.getfield 257, 3, xF 0 22 0), none, none, some (.iload_n 1, 1, xN), some (.if_icmp .ne (7), 3, xJ 117), none,
  none, some (.iconst 1, 1, xI (1)), some (.goto (4), 3, xJ 118), none, none, some (.iconst 0, 1, xI (0)), some (.istore 7, 2, xN), none,
  some (.iload 6, 2, xN), none, some (.iconst (-1), 1, xI (-1)), some (.if_icmp .eq (60), 3, xJ 183), none, none, some (.aload_n 0, 1, xN), some (.getfield 257, 3, xF 0 22 0),
  none, none, some (.sipush 200, 3, xI (200)), none, none, some (.if_icmp .ge (50), 3, xJ 183), none, none,
  some (.iload 7, 2, xN), none, some (.ifCond .eq (20), 3, xJ 158), none, none, some (.aload_n 0, 1, xN), some (.getfield 63, 3, xF 0 15 2), none,
  none, some (.iload 6, 2, xN), none, some (.laload, 1, xN), some (.ldc2_w 273, 3, xL (17)), none, none, some (.lcmp, 1, xN),
  some (.ifCond .ne (31), 3, xJ 183), none, none, some (.goto (24), 3, xJ 179), none, none, some (.aload_n 0, 1, xN), some (.getfield 260, 3, xF 0 23 0),
  none, none, some (.ifCond .le (21), 3, xJ 183), none, none, some (.aload_n 0, 1, xN), some (.getfield 63, 3, xF 0 15 2), none,
  none, some (.iload 6, 2, xN), none, some (.laload, 1, xN), some (.ldc2_w 273, 3, xL (17)), none, none, some (.lcmp, 1, xN),
  some (.ifCond .eq (7), 3, xJ 183), none, none, some (.iconst 1, 1, xI (1)), some (.goto (4), 3, xJ 184), none, none, some (.iconst 0, 1, xI (0)),
  some (.istore_n 2, 1, xN), some (.iload_n 2, 1, xN), some (.ifCond .eq (42), 3, xJ 228), none, none, some (.aload_n 0, 1, xN), some (.iload_n 3, 1, xN), some (.iload 6, 2, xN),
  none, some (.invokevirtual 275, 3, xN), none, none, some (.aload_n 0, 1, xN), some (.getfield 164, 3, xF 0 8 3), none, none,
  some (.ifCond .ne (26), 3, xJ 226), none, none, some (.aload_n 0, 1, xN), some (.getfield 72, 3, xF 0 18 2), none, none, some (.iload 6, 2, xN),
  none, some (.baload, 1, xJ 3), some (.ifCond .eq (12), 3, xJ 222), none, none, some (.aload_n 0, 1, xN), some (.getfield 260, 3, xF 0 23 0), none,
  none, some (.bipush 16, 2, xI (16)), none, some (.if_icmp .ge (7), 3, xJ 226), none, none, some (.iconst 1, 1, xI (1)), some (.goto (4), 3, xJ 227),
  none, none, some (.iconst 0, 1, xI (0)), some (.istore_n 2, 1, xN), some (.iload_n 2, 1, xN), some (.ifCond .eq (38), 3, xJ 267), none, none,
  some (.aload_n 0, 1, xN), some (.getfield 72, 3, xF 0 18 2), none, none, some (.iload 6, 2, xN), none, some (.baload, 1, xJ 3), some (.ifCond .eq (28), 3, xJ 267),
  none, none, some (.aload_n 0, 1, xN), some (.getfield 87, 3, xF 0 26 2), none, none, some (.aload_n 0, 1, xN), some (.getfield 260, 3, xF 0 23 0),
  none, none, some (.aload_n 0, 1, xN), some (.getfield 257, 3, xF 0 22 0), none, none, some (.iconst 1, 1, xI (1)), some (.isub, 1, xN),
  some (.iastore, 1, xN), some (.aload_n 0, 1, xN), some (.dup, 1, xN), some (.getfield 260, 3, xF 0 23 0), none, none, some (.iconst 1, 1, xI (1)), some (.iadd, 1, xN),
  some (.putfield 260, 3, xF 0 23 0), none, none, some (.goto (-255), 3, xJ 12), none, none, some (.iload_n 2, 1, xN), some (.ifCond .eq (29), 3, xJ 300),
  none, none, some (.aload_n 0, 1, xN), some (.getfield 164, 3, xF 0 8 3), none, none, some (.ifCond .ne (22), 3, xJ 300), none,
  none, some (.aload_n 0, 1, xN), some (.getfield 257, 3, xF 0 22 0), none, none, some (.iload_n 1, 1, xN), some (.if_icmp .le (14), 3, xJ 300), none,
  none, some (.aload_n 0, 1, xN), some (.getfield 260, 3, xF 0 23 0), none, none, some (.ifCond .ne (7), 3, xJ 300), none, none,
  some (.iconst 1, 1, xI (1)), some (.goto (4), 3, xJ 301), none, none, some (.iconst 0, 1, xI (0)), some (.ireturn, 1, xN)]
def M_Mo_readEntries : am_Me := (⟨R_Mo, "readEntries", "()Z"⟩, prog_14_method_28_code, 8, (some .boolean), Y_Mo, cd_Mo_readEntries, 5, 121, 0, 0)
set_option maxRecDepth 100000 in
theorem ok_Mo_readEntries : am_ok S_m M_Mo_readEntries := am_ok_ofY (Y := Y_Mo) (cd := cd_Mo_readEntries) (by decide +kernel) rfl rfl rfl oY_Mo (by decide +kernel)
def cd_Mo_readUnits : List (Option am_I) := [some (.aload_n 0, 1, xN), some (.getfield 49, 3, xF 0 10 2), none, none, some (.iconst 1, 1, xI (1)), some (.iaload, 1, xN), some (.aload_n 0, 1, xN), some (.getfield 53, 3, xF 0 11 2),
  none, none, some (.iconst 1, 1, xI (1)), some (.iaload, 1, xN), some (.iadd, 1, xN), some (.istore_n 1, 1, xN), some (.aload_n 0, 1, xN), some (.getfield 49, 3, xF 0 10 2),
  none, none, some (.iconst 1, 1, xI (1)), some (.iaload, 1, xN), some (.istore_n 2, 1, xN), some (.iconst 1, 1, xI (1)), some (.istore_n 3, 1, xN), some (.iload_n 3, 1, xN),
  some (.ifCond .eq (94), 3, xJ 118), none, none, some (.iload_n 2, 1, xN), some (.iload_n 1, 1, xN), some (.if_icmp .ge (89), 3, xJ 118), none, none,
  some (.aload_n 0, 1, xN), some (.iload_n 2, 1, xN), some (.putfield 167, 3, xF 0 6 0), none, none, some (.aload_n 0, 1, xN), some (.iload_n 1, 1, xN), some (.putfield 170, 3, xF 0 7 0),
  none, none, some (.aload_n 0, 1, xN), some (.iconst 0, 1, xI (0)), some (.putfield 164, 3, xF 0 8 3), none, none, some (.aload_n 0, 1, xN),
  some (.iconst 4, 1, xI (4)), some (.invokevirtual 177, 3, xN), none, none, some (.lstore 4, 2, xN), none, some (.aload_n 0, 1, xN), some (.getfield 263, 3, xF 0 21 0),
  none, none, some (.iconst 4, 1, xI (4)), some (.if_icmp .ge (27), 3, xJ 86), none, none, some (.aload_n 0, 1, xN), some (.getfield 164, 3, xF 0 8 3),
  none, none, some (.ifCond .ne (20), 3, xJ 86), none, none, some (.lload 4, 2, xN), none, some (.iload_n 1, 1, xN),
  some (.aload_n 0, 1, xN), some (.getfield 167, 3, xF 0 6 0), none, none, some (.isub, 1, xN), some (.i2l, 1, xN), some (.lcmp, 1, xN), some (.ifCond .gt (7), 3, xJ 86),
  none, none, some (.iconst 1, 1, xI (1)), some (.goto (4), 3, xJ 87), none, none, some (.iconst 0, 1, xI (0)), some (.istore_n 3, 1, xN),
  some (.iload_n 3, 1, xN), some (.ifCond .eq (26), 3, xJ 115), none, none, some (.aload_n 0, 1, xN), some (.aload_n 0, 1, xN), some (.getfield 167, 3, xF 0 6 0), none,
  none, some (.lload 4, 2, xN), none, some (.l2i, 1, xN), some (.iadd, 1, xN), some (.putfield 170, 3, xF 0 7 0), none, none,
  some (.aload_n 0, 1, xN), some (.iload_n 2, 1, xN), some (.invokevirtual 279, 3, xN), none, none, some (.istore_n 3, 1, xN), some (.aload_n 0, 1, xN), some (.getfield 170, 3, xF 0 7 0),
  none, none, some (.istore_n 2, 1, xN), some (.goto (-92), 3, xJ 23), none, none, some (.iload_n 3, 1, xN), some (.ireturn, 1, xN)]
def M_Mo_readUnits : am_Me := (⟨R_Mo, "readUnits", "()Z"⟩, prog_14_method_29_code, 6, (some .boolean), Y_Mo, cd_Mo_readUnits, 7, 179, 0, 0)
set_option maxRecDepth 100000 in
theorem ok_Mo_readUnits : am_ok S_m M_Mo_readUnits := am_ok_ofY (Y := Y_Mo) (cd := cd_Mo_readUnits) (by decide +kernel) rfl rfl rfl oY_Mo (by decide +kernel)
def cd_Mo_readUnit : List (Option am_I) := [some (.aload_n 0, 1, xN), some (.getfield 170, 3, xF 0 7 0), none, none, some (.istore_n 2, 1, xN), some (.aload_n 0, 1, xN), some (.iconst 2, 1, xI (2)), some (.invokevirtual 177, 3, xN),
  none, none, some (.lstore_n 3, 1, xN), some (.aload_n 0, 1, xN), some (.iconst 1, 1, xI (1)), some (.invokevirtual 177, 3, xN), none, none,
  some (.lstore 5, 2, xN), none, some (.aload_n 0, 1, xN), some (.iconst 1, 1, xI (1)), some (.invokevirtual 177, 3, xN), none, none, some (.lstore 7, 2, xN),
  none, some (.aload_n 0, 1, xN), some (.iconst 4, 1, xI (4)), some (.invokevirtual 177, 3, xN), none, none, some (.lstore 9, 2, xN), none,
  some (.aload_n 0, 1, xN), some (.getfield 167, 3, xF 0 6 0), none, none, some (.istore 11, 2, xN), none, some (.aload_n 0, 1, xN), some (.getfield 164, 3, xF 0 8 3),
  none, none, some (.ifCond .ne (36), 3, xJ 78), none, none, some (.lload_n 3, 1, xN), some (.ldc2_w 282, 3, xL (5)), none,
  none, some (.lcmp, 1, xN), some (.ifCond .ne (28), 3, xJ 78), none, none, some (.lload 5, 2, xN), none, some (.lconst 1, 1, xL 1),
  some (.lcmp, 1, xN), some (.ifCond .ne (21), 3, xJ 78), none, none, some (.lload 7, 2, xN), none, some (.ldc2_w 207, 3, xL (8)), none,
  none, some (.lcmp, 1, xN), some (.ifCond .ne (12), 3, xJ 78), none, none, some (.aload_n 0, 1, xN), some (.lload 9, 2, xN), none,
  some (.invokevirtual 284, 3, xN), none, none, some (.ifCond .ne (5), 3, xJ 80), none, none, some (.iconst 0, 1, xI (0)), some (.ireturn, 1, xN),
  some (.aload_n 0, 1, xN), some (.iload 11, 2, xN), none, some (.putfield 167, 3, xF 0 6 0), none, none, some (.aload_n 0, 1, xN), some (.iload_n 2, 1, xN),
  some (.putfield 170, 3, xF 0 7 0), none, none, some (.aload_n 0, 1, xN), some (.iconst 0, 1, xI (0)), some (.putfield 164, 3, xF 0 8 3), none, none,
  some (.aload_n 0, 1, xN), some (.getfield 81, 3, xF 0 24 2), none, none, some (.aload_n 0, 1, xN), some (.getfield 263, 3, xF 0 21 0), none, none,
  some (.iload_n 1, 1, xN), some (.iastore, 1, xN), some (.aload_n 0, 1, xN), some (.getfield 84, 3, xF 0 25 2), none, none, some (.aload_n 0, 1, xN), some (.getfield 263, 3, xF 0 21 0),
  none, none, some (.aload_n 0, 1, xN), some (.getfield 257, 3, xF 0 22 0), none, none, some (.iastore, 1, xN), some (.aload_n 0, 1, xN),
  some (.dup, 1, xN), some (.getfield 263, 3, xF 0 21 0), none, none, some (.iconst 1, 1, xI (1)), some (.iadd, 1, xN), some (.putfield 263, 3, xF 0 21 0), none,
  none, some (.aload_n 0, 1, xN), some (.invokevirtual 287, 3, xN), none, none, some (.ireturn, 1, xN)]
def M_Mo_readUnit : am_Me := (⟨R_Mo, "readUnit", "(I)Z"⟩, prog_14_method_30_code, 12, (some .boolean), Y_Mo, cd_Mo_readUnit, 6, 148, 0, 0)
set_option maxRecDepth 100000 in
theorem ok_Mo_readUnit : am_ok S_m M_Mo_readUnit := am_ok_ofY (Y := Y_Mo) (cd := cd_Mo_readUnit) (by decide +kernel) rfl rfl rfl oY_Mo (by decide +kernel)
def cd_Mo_formAt : List (Option am_I) := [some (.aload_n 0, 1, xN), some (.getfield 102, 3, xF 0 31 2), none, none, some (.bipush 11, 2, xI (11)), none, some (.iload_n 1, 1, xN), some (.imul, 1, xN),
  some (.iload_n 2, 1, xN), some (.iadd, 1, xN), some (.iaload, 1, xN), some (.ireturn, 1, xN)]
def M_Mo_formAt : am_Me := (⟨R_Mo, "formAt", "(II)I"⟩, prog_14_method_31_code, 3, (some .int), Y_Mo, cd_Mo_formAt, 0, 0, 0, 0)
set_option maxRecDepth 100000 in
theorem ok_Mo_formAt : am_ok S_m M_Mo_formAt := am_ok_ofY (Y := Y_Mo) (cd := cd_Mo_formAt) (by decide +kernel) rfl rfl rfl oY_Mo (by decide +kernel)
def cd_Mo_has : List (Option am_I) := [some (.aload_n 0, 1, xN), some (.getfield 102, 3, xF 0 31 2), none, none, some (.bipush 11, 2, xI (11)), none, some (.iload_n 1, 1, xN), some (.imul, 1, xN),
  some (.iload_n 2, 1, xN), some (.iadd, 1, xN), some (.iaload, 1, xN), some (.ifCond .le (7), 3, xJ 18), none, none, some (.iconst 1, 1, xI (1)), some (.goto (4), 3, xJ 19),
  none, none, some (.iconst 0, 1, xI (0)), some (.ireturn, 1, xN)]
def M_Mo_has : am_Me := (⟨R_Mo, "has", "(II)Z"⟩, prog_14_method_32_code, 3, (some .boolean), Y_Mo, cd_Mo_has, 0, 0, 0, 0)
set_option maxRecDepth 100000 in
theorem ok_Mo_has : am_ok S_m M_Mo_has := am_ok_ofY (Y := Y_Mo) (cd := cd_Mo_has) (by decide +kernel) rfl rfl rfl oY_Mo (by decide +kernel)
def cd_Mo_valueAt : List (Option am_I) := [some (.aload_n 0, 1, xN), some (.getfield 105, 3, xF 0 32 2), none, none, some (.bipush 11, 2, xI (11)), none, some (.iload_n 1, 1, xN), some (.imul, 1, xN),
  some (.iload_n 2, 1, xN), some (.iadd, 1, xN), some (.laload, 1, xN), some (.lreturn, 1, xN)]
def M_Mo_valueAt : am_Me := (⟨R_Mo, "valueAt", "(II)J"⟩, prog_14_method_33_code, 3, (some .long), Y_Mo, cd_Mo_valueAt, 0, 0, 0, 0)
set_option maxRecDepth 100000 in
theorem ok_Mo_valueAt : am_ok S_m M_Mo_valueAt := am_ok_ofY (Y := Y_Mo) (cd := cd_Mo_valueAt) (by decide +kernel) rfl rfl rfl oY_Mo (by decide +kernel)
def cd_Mo_isConstant : List (Option am_I) := [some (.iload_n 0, 1, xN), some (.bipush 11, 2, xI (11)), none, some (.if_icmp .eq (44), 3, xJ 47), none, none, some (.iload_n 0, 1, xN), some (.iconst 5, 1, xI (5)),
  some (.if_icmp .eq (39), 3, xJ 47), none, none, some (.iload_n 0, 1, xN), some (.bipush 6, 2, xI (6)), none, some (.if_icmp .eq (33), 3, xJ 47), none,
  none, some (.iload_n 0, 1, xN), some (.bipush 7, 2, xI (7)), none, some (.if_icmp .eq (27), 3, xJ 47), none, none, some (.iload_n 0, 1, xN),
  some (.bipush 13, 2, xI (13)), none, some (.if_icmp .eq (21), 3, xJ 47), none, none, some (.iload_n 0, 1, xN), some (.bipush 15, 2, xI (15)), none,
  some (.if_icmp .eq (15), 3, xJ 47), none, none, some (.iload_n 0, 1, xN), some (.bipush 33, 2, xI (33)), none, some (.if_icmp .eq (9), 3, xJ 47), none,
  none, some (.iload_n 0, 1, xN), some (.bipush 25, 2, xI (25)), none, some (.if_icmp .ne (7), 3, xJ 51), none, none, some (.iconst 1, 1, xI (1)),
  some (.goto (4), 3, xJ 52), none, none, some (.iconst 0, 1, xI (0)), some (.ireturn, 1, xN)]
def M_Mo_isConstant : am_Me := (⟨R_Mo, "isConstant", "(I)Z"⟩, prog_14_method_34_code, 1, (some .boolean), Y_Mo, cd_Mo_isConstant, 0, 0, 0, 0)
set_option maxRecDepth 100000 in
theorem ok_Mo_isConstant : am_ok S_m M_Mo_isConstant := am_ok_ofY (Y := Y_Mo) (cd := cd_Mo_isConstant) (by decide +kernel) rfl rfl rfl oY_Mo (by decide +kernel)
def cd_Mo_isAddress : List (Option am_I) := [some (.iload_n 0, 1, xN), some (.iconst 1, 1, xI (1)), some (.if_icmp .eq (9), 3, xJ 11), none, none, some (.iload_n 0, 1, xN), some (.bipush 27, 2, xI (27)), none,
  some (.if_icmp .ne (7), 3, xJ 15), none, none, some (.iconst 1, 1, xI (1)), some (.goto (4), 3, xJ 16), none, none, some (.iconst 0, 1, xI (0)),
  some (.ireturn, 1, xN)]
def M_Mo_isAddress : am_Me := (⟨R_Mo, "isAddress", "(I)Z"⟩, prog_14_method_35_code, 1, (some .boolean), Y_Mo, cd_Mo_isAddress, 0, 0, 0, 0)
set_option maxRecDepth 100000 in
theorem ok_Mo_isAddress : am_ok S_m M_Mo_isAddress := am_ok_ofY (Y := Y_Mo) (cd := cd_Mo_isAddress) (by decide +kernel) rfl rfl rfl oY_Mo (by decide +kernel)
def cd_Mo_baseOf : List (Option am_I) := [some (.aload_n 0, 1, xN), some (.getfield 84, 3, xF 0 25 2), none, none, some (.aload_n 0, 1, xN), some (.getfield 99, 3, xF 0 30 2), none, none,
  some (.iload_n 1, 1, xN), some (.iaload, 1, xN), some (.iaload, 1, xN), some (.istore_n 3, 1, xN), some (.aload_n 0, 1, xN), some (.iload_n 3, 1, xN), some (.iload_n 2, 1, xN), some (.invokevirtual 290, 3, xN),
  none, none, some (.ifCond .eq (12), 3, xJ 30), none, none, some (.aload_n 0, 1, xN), some (.iload_n 3, 1, xN), some (.iload_n 2, 1, xN),
  some (.invokevirtual 294, 3, xN), none, none, some (.goto (4), 3, xJ 31), none, none, some (.lconst 0, 1, xL 0), some (.lreturn, 1, xN)]
def M_Mo_baseOf : am_Me := (⟨R_Mo, "baseOf", "(II)J"⟩, prog_14_method_36_code, 4, (some .long), Y_Mo, cd_Mo_baseOf, 1, 22, 0, 0)
set_option maxRecDepth 100000 in
theorem ok_Mo_baseOf : am_ok S_m M_Mo_baseOf := am_ok_ofY (Y := Y_Mo) (cd := cd_Mo_baseOf) (by decide +kernel) rfl rfl rfl oY_Mo (by decide +kernel)
def cd_Mo_indexed : List (Option am_I) := [some (.lload 4, 2, xN), none, some (.lconst 0, 1, xL 0), some (.ldc2_w 297, 3, xL (3000)), none, none, some (.invokestatic 201, 3, xN), none,
  none, some (.ifCond .eq (21), 3, xJ 30), none, none, some (.aload_n 0, 1, xN), some (.iload_n 1, 1, xN), some (.lload_n 2, 1, xN), some (.iload 6, 2, xN),
  none, some (.i2l, 1, xN), some (.lload 4, 2, xN), none, some (.lmul, 1, xN), some (.ladd, 1, xN), some (.iload 6, 2, xN), none,
  some (.invokevirtual 191, 3, xN), none, none, some (.goto (4), 3, xJ 31), none, none, some (.iconst (-1), 1, xI (-1)), some (.ireturn, 1, xN)]
def M_Mo_indexed : am_Me := (⟨R_Mo, "indexed", "(IJJI)I"⟩, prog_14_method_37_code, 7, (some .int), Y_Mo, cd_Mo_indexed, 1, 25, 0, 0)
set_option maxRecDepth 100000 in
theorem ok_Mo_indexed : am_ok S_m M_Mo_indexed := am_ok_ofY (Y := Y_Mo) (cd := cd_Mo_indexed) (by decide +kernel) rfl rfl rfl oY_Mo (by decide +kernel)
def cd_Mo_nameAt : List (Option am_I) := [some (.aload_n 0, 1, xN), some (.iload_n 1, 1, xN), some (.iconst 0, 1, xI (0)), some (.invokevirtual 294, 3, xN), none, none, some (.lstore_n 2, 1, xN), some (.aload_n 0, 1, xN),
  some (.iload_n 1, 1, xN), some (.iconst 0, 1, xI (0)), some (.invokevirtual 299, 3, xN), none, none, some (.lookupswitch (99) #[(8, 43), (14, 46), (31, 53), (37, 60)], 43, xN), none, none,
  none, none, none, none, none, none, none, none,
  none, none, none, none, none, none, none, none,
  none, none, none, none, none, none, none, none,
  none, none, none, none, none, none, none, none,
  none, none, none, none, none, none, none, none,
  some (.lload_n 2, 1, xN), some (.l2i, 1, xN), some (.ireturn, 1, xN), some (.aload_n 0, 1, xN), some (.iconst 2, 1, xI (2)), some (.lload_n 2, 1, xN), some (.invokevirtual 302, 3, xN), none,
  none, some (.ireturn, 1, xN), some (.aload_n 0, 1, xN), some (.iconst 3, 1, xI (3)), some (.lload_n 2, 1, xN), some (.invokevirtual 302, 3, xN), none, none,
  some (.ireturn, 1, xN), some (.aload_n 0, 1, xN), some (.iconst 4, 1, xI (4)), some (.aload_n 0, 1, xN), some (.iload_n 1, 1, xN), some (.bipush 8, 2, xI (8)), none, some (.invokevirtual 306, 3, xN),
  none, none, some (.lload_n 2, 1, xN), some (.iconst 4, 1, xI (4)), some (.invokevirtual 309, 3, xN), none, none, some (.istore 4, 2, xN),
  none, some (.iload 4, 2, xN), none, some (.iconst (-1), 1, xI (-1)), some (.if_icmp .ne (7), 3, xJ 99), none, none, some (.iconst (-1), 1, xI (-1)),
  some (.goto (15), 3, xJ 111), none, none, some (.aload_n 0, 1, xN), some (.iconst 2, 1, xI (2)), some (.aload_n 0, 1, xN), some (.iload 4, 2, xN), none,
  some (.iconst 4, 1, xI (4)), some (.invokevirtual 173, 3, xN), none, none, some (.invokevirtual 302, 3, xN), none, none, some (.ireturn, 1, xN),
  some (.iconst (-1), 1, xI (-1)), some (.ireturn, 1, xN)]
def M_Mo_nameAt : am_Me := (⟨R_Mo, "nameAt", "(I)I"⟩, prog_14_method_38_code, 5, (some .int), Y_Mo, cd_Mo_nameAt, 2, 51, 0, 0)
set_option maxRecDepth 100000 in
theorem ok_Mo_nameAt : am_ok S_m M_Mo_nameAt := am_ok_ofY (Y := Y_Mo) (cd := cd_Mo_nameAt) (by decide +kernel) rfl rfl rfl oY_Mo (by decide +kernel)
def cd_Mo_addressAt : List (Option am_I) := [some (.aload_n 0, 1, xN), some (.iconst 5, 1, xI (5)), some (.aload_n 0, 1, xN), some (.iload_n 1, 1, xN), some (.bipush 9, 2, xI (9)), none, some (.invokevirtual 306, 3, xN), none,
  none, some (.lload_n 2, 1, xN), some (.bipush 8, 2, xI (8)), none, some (.invokevirtual 309, 3, xN), none, none, some (.istore 4, 2, xN),
  none, some (.aload_n 0, 1, xN), some (.iload 4, 2, xN), none, some (.iconst (-1), 1, xI (-1)), some (.if_icmp .ne (7), 3, xJ 28), none, none,
  some (.lconst 0, 1, xL 0), some (.goto (11), 3, xJ 36), none, none, some (.aload_n 0, 1, xN), some (.iload 4, 2, xN), none, some (.bipush 8, 2, xI (8)),
  none, some (.invokevirtual 173, 3, xN), none, none, some (.putfield 313, 3, xF 0 37 1), none, none, some (.iload 4, 2, xN),
  none, some (.iconst (-1), 1, xI (-1)), some (.if_icmp .eq (7), 3, xJ 49), none, none, some (.iconst 1, 1, xI (1)), some (.goto (4), 3, xJ 50), none,
  none, some (.iconst 0, 1, xI (0)), some (.ireturn, 1, xN)]
def M_Mo_addressAt : am_Me := (⟨R_Mo, "addressAt", "(IJ)Z"⟩, prog_14_method_39_code, 5, (some .boolean), Y_Mo, cd_Mo_addressAt, 2, 51, 0, 0)
set_option maxRecDepth 100000 in
theorem ok_Mo_addressAt : am_ok S_m M_Mo_addressAt := am_ok_ofY (Y := Y_Mo) (cd := cd_Mo_addressAt) (by decide +kernel) rfl rfl rfl oY_Mo (by decide +kernel)
def cd_Mo_address : List (Option am_I) := [some (.aload_n 0, 1, xN), some (.aload_n 0, 1, xN), some (.iload_n 1, 1, xN), some (.iload_n 2, 1, xN), some (.invokevirtual 294, 3, xN), none, none, some (.putfield 313, 3, xF 0 37 1),
  none, none, some (.aload_n 0, 1, xN), some (.iload_n 1, 1, xN), some (.iload_n 2, 1, xN), some (.invokevirtual 299, 3, xN), none, none,
  some (.bipush 27, 2, xI (27)), none, some (.if_icmp .ne (15), 3, xJ 33), none, none, some (.aload_n 0, 1, xN), some (.iload_n 1, 1, xN), some (.aload_n 0, 1, xN),
  some (.getfield 313, 3, xF 0 37 1), none, none, some (.invokevirtual 317, 3, xN), none, none, some (.ifCond .eq (7), 3, xJ 37), none,
  none, some (.iconst 1, 1, xI (1)), some (.goto (4), 3, xJ 38), none, none, some (.iconst 0, 1, xI (0)), some (.ireturn, 1, xN)]
def M_Mo_address : am_Me := (⟨R_Mo, "address", "(II)Z"⟩, prog_14_method_40_code, 3, (some .boolean), Y_Mo, cd_Mo_address, 3, 75, 0, 0)
set_option maxRecDepth 100000 in
theorem ok_Mo_address : am_ok S_m M_Mo_address := am_ok_ofY (Y := Y_Mo) (cd := cd_Mo_address) (by decide +kernel) rfl rfl rfl oY_Mo (by decide +kernel)
def cd_Mo_isOrigin : List (Option am_I) := [some (.aload_n 0, 1, xN), some (.iload_n 1, 1, xN), some (.invokevirtual 321, 3, xN), none, none, some (.iconst (-1), 1, xI (-1)), some (.if_icmp .eq (7), 3, xJ 13), none,
  none, some (.iconst 1, 1, xI (1)), some (.goto (4), 3, xJ 14), none, none, some (.iconst 0, 1, xI (0)), some (.ireturn, 1, xN)]
def M_Mo_isOrigin : am_Me := (⟨R_Mo, "isOrigin", "(I)Z"⟩, prog_14_method_41_code, 2, (some .boolean), Y_Mo, cd_Mo_isOrigin, 2, 46, 0, 0)
set_option maxRecDepth 100000 in
theorem ok_Mo_isOrigin : am_ok S_m M_Mo_isOrigin := am_ok_ofY (Y := Y_Mo) (cd := cd_Mo_isOrigin) (by decide +kernel) rfl rfl rfl oY_Mo (by decide +kernel)
def cd_Mo_origin : List (Option am_I) := [some (.aload_n 0, 1, xN), some (.iload_n 1, 1, xN), some (.iconst 4, 1, xI (4)), some (.invokevirtual 299, 3, xN), none, none, some (.bipush 19, 2, xI (19)), none,
  some (.if_icmp .eq (5), 3, xJ 13), none, none, some (.iconst (-1), 1, xI (-1)), some (.ireturn, 1, xN), some (.aload_n 0, 1, xN), some (.getfield 81, 3, xF 0 24 2), none,
  none, some (.aload_n 0, 1, xN), some (.getfield 99, 3, xF 0 30 2), none, none, some (.iload_n 1, 1, xN), some (.iaload, 1, xN), some (.iaload, 1, xN),
  some (.i2l, 1, xN), some (.aload_n 0, 1, xN), some (.iload_n 1, 1, xN), some (.iconst 4, 1, xI (4)), some (.invokevirtual 294, 3, xN), none, none, some (.ladd, 1, xN),
  some (.lstore_n 2, 1, xN), some (.iconst 0, 1, xI (0)), some (.istore 4, 2, xN), none, some (.iload 4, 2, xN), none, some (.aload_n 0, 1, xN), some (.getfield 257, 3, xF 0 22 0),
  none, none, some (.if_icmp .ge (65), 3, xJ 107), none, none, some (.aload_n 0, 1, xN), some (.getfield 99, 3, xF 0 30 2), none,
  none, some (.iload 4, 2, xN), none, some (.iaload, 1, xN), some (.aload_n 0, 1, xN), some (.getfield 99, 3, xF 0 30 2), none, none,
  some (.iload_n 1, 1, xN), some (.iaload, 1, xN), some (.if_icmp .ne (43), 3, xJ 101), none, none, some (.aload_n 0, 1, xN), some (.getfield 90, 3, xF 0 27 2), none,
  none, some (.iload 4, 2, xN), none, some (.iaload, 1, xN), some (.i2l, 1, xN), some (.lload_n 2, 1, xN), some (.lcmp, 1, xN), some (.ifCond .ne (30), 3, xJ 101),
  none, none, some (.aload_n 0, 1, xN), some (.getfield 93, 3, xF 0 28 2), none, none, some (.iload 4, 2, xN), none,
  some (.iaload, 1, xN), some (.bipush 46, 2, xI (46)), none, some (.if_icmp .eq (15), 3, xJ 98), none, none, some (.aload_n 0, 1, xN), some (.getfield 93, 3, xF 0 28 2),
  none, none, some (.iload 4, 2, xN), none, some (.iaload, 1, xN), some (.bipush 29, 2, xI (29)), none, some (.if_icmp .ne (6), 3, xJ 101),
  none, none, some (.iload 4, 2, xN), none, some (.ireturn, 1, xN), some (.iinc 4 (1), 3, xI (1)), none, none,
  some (.goto (-68), 3, xJ 36), none, none, some (.iconst (-1), 1, xI (-1)), some (.ireturn, 1, xN)]
def M_Mo_origin : am_Me := (⟨R_Mo, "origin", "(I)I"⟩, prog_14_method_42_code, 5, (some .int), Y_Mo, cd_Mo_origin, 1, 22, 0, 0)
set_option maxRecDepth 100000 in
theorem ok_Mo_origin : am_ok S_m M_Mo_origin := am_ok_ofY (Y := Y_Mo) (cd := cd_Mo_origin) (by decide +kernel) rfl rfl rfl oY_Mo (by decide +kernel)
def cd_Mo_isRight : List (Option am_I) := [some (.aload_n 0, 1, xN), some (.iload_n 1, 1, xN), some (.iconst 0, 1, xI (0)), some (.invokevirtual 290, 3, xN), none, none, some (.ifCond .eq (12), 3, xJ 18), none,
  none, some (.aload_n 0, 1, xN), some (.iload_n 1, 1, xN), some (.invokevirtual 325, 3, xN), none, none, some (.iconst (-1), 1, xI (-1)), some (.if_icmp .eq (7), 3, xJ 22),
  none, none, some (.iconst 1, 1, xI (1)), some (.goto (4), 3, xJ 23), none, none, some (.iconst 0, 1, xI (0)), some (.istore_n 2, 1, xN),
  some (.iload_n 2, 1, xN), some (.ifCond .eq (37), 3, xJ 62), none, none, some (.aload_n 0, 1, xN), some (.iload_n 1, 1, xN), some (.iconst 1, 1, xI (1)), some (.invokevirtual 290, 3, xN),
  none, none, some (.ifCond .eq (24), 3, xJ 58), none, none, some (.aload_n 0, 1, xN), some (.iload_n 1, 1, xN), some (.iconst 1, 1, xI (1)),
  some (.invokevirtual 299, 3, xN), none, none, some (.invokestatic 328, 3, xN), none, none, some (.ifCond .eq (16), 3, xJ 62), none,
  none, some (.aload_n 0, 1, xN), some (.iload_n 1, 1, xN), some (.iconst 1, 1, xI (1)), some (.invokevirtual 331, 3, xN), none, none, some (.ifCond .eq (7), 3, xJ 62),
  none, none, some (.iconst 1, 1, xI (1)), some (.goto (4), 3, xJ 63), none, none, some (.iconst 0, 1, xI (0)), some (.istore_n 2, 1, xN),
  some (.iload_n 2, 1, xN), some (.ifCond .eq (49), 3, xJ 114), none, none, some (.aload_n 0, 1, xN), some (.iload_n 1, 1, xN), some (.iconst 2, 1, xI (2)), some (.invokevirtual 290, 3, xN),
  none, none, some (.ifCond .eq (36), 3, xJ 110), none, none, some (.aload_n 0, 1, xN), some (.iload_n 1, 1, xN), some (.iconst 2, 1, xI (2)),
  some (.invokevirtual 299, 3, xN), none, none, some (.invokestatic 334, 3, xN), none, none, some (.ifCond .ne (24), 3, xJ 110), none,
  none, some (.aload_n 0, 1, xN), some (.iload_n 1, 1, xN), some (.iconst 2, 1, xI (2)), some (.invokevirtual 299, 3, xN), none, none, some (.invokestatic 328, 3, xN),
  none, none, some (.ifCond .eq (16), 3, xJ 114), none, none, some (.aload_n 0, 1, xN), some (.iload_n 1, 1, xN), some (.iconst 2, 1, xI (2)),
  some (.invokevirtual 331, 3, xN), none, none, some (.ifCond .eq (7), 3, xJ 114), none, none, some (.iconst 1, 1, xI (1)), some (.goto (4), 3, xJ 115),
  none, none, some (.iconst 0, 1, xI (0)), some (.istore_n 2, 1, xN), some (.iload_n 2, 1, xN), some (.ifCond .eq (38), 3, xJ 155), none, none,
  some (.aload_n 0, 1, xN), some (.iload_n 1, 1, xN), some (.iconst 3, 1, xI (3)), some (.invokevirtual 290, 3, xN), none, none, some (.ifCond .eq (25), 3, xJ 151), none,
  none, some (.aload_n 0, 1, xN), some (.iload_n 1, 1, xN), some (.iconst 3, 1, xI (3)), some (.invokevirtual 299, 3, xN), none, none, some (.bipush 23, 2, xI (23)),
  none, some (.if_icmp .eq (14), 3, xJ 151), none, none, some (.aload_n 0, 1, xN), some (.iload_n 1, 1, xN), some (.iconst 3, 1, xI (3)), some (.invokevirtual 299, 3, xN),
  none, none, some (.bipush 35, 2, xI (35)), none, some (.if_icmp .ne (7), 3, xJ 155), none, none, some (.iconst 1, 1, xI (1)),
  some (.goto (4), 3, xJ 156), none, none, some (.iconst 0, 1, xI (0)), some (.istore_n 2, 1, xN), some (.iload_n 2, 1, xN), some (.ifCond .eq (24), 3, xJ 182), none,
  none, some (.aload_n 0, 1, xN), some (.iload_n 1, 1, xN), some (.iconst 4, 1, xI (4)), some (.invokevirtual 290, 3, xN), none, none, some (.ifCond .eq (11), 3, xJ 178),
  none, none, some (.aload_n 0, 1, xN), some (.iload_n 1, 1, xN), some (.invokevirtual 337, 3, xN), none, none, some (.ifCond .eq (7), 3, xJ 182),
  none, none, some (.iconst 1, 1, xI (1)), some (.goto (4), 3, xJ 183), none, none, some (.iconst 0, 1, xI (0)), some (.istore_n 2, 1, xN),
  some (.iload_n 2, 1, xN), some (.ifCond .eq (51), 3, xJ 236), none, none, some (.aload_n 0, 1, xN), some (.iload_n 1, 1, xN), some (.iconst 5, 1, xI (5)), some (.invokevirtual 290, 3, xN),
  none, none, some (.ifCond .eq (15), 3, xJ 209), none, none, some (.aload_n 0, 1, xN), some (.iload_n 1, 1, xN), some (.iconst 5, 1, xI (5)),
  some (.invokevirtual 299, 3, xN), none, none, some (.invokestatic 334, 3, xN), none, none, some (.ifCond .eq (30), 3, xJ 236), none,
  none, some (.aload_n 0, 1, xN), some (.iload_n 1, 1, xN), some (.bipush 6, 2, xI (6)), none, some (.invokevirtual 290, 3, xN), none, none,
  some (.ifCond .eq (16), 3, xJ 232), none, none, some (.aload_n 0, 1, xN), some (.iload_n 1, 1, xN), some (.bipush 6, 2, xI (6)), none, some (.invokevirtual 299, 3, xN),
  none, none, some (.invokestatic 334, 3, xN), none, none, some (.ifCond .eq (7), 3, xJ 236), none, none,
  some (.iconst 1, 1, xI (1)), some (.goto (4), 3, xJ 237), none, none, some (.iconst 0, 1, xI (0)), some (.istore_n 2, 1, xN), some (.bipush 7, 2, xI (7)), none,
  some (.istore_n 3, 1, xN), some (.iload_n 3, 1, xN), some (.bipush 11, 2, xI (11)), none, some (.if_icmp .ge (50), 3, xJ 294), none, none, some (.aload_n 0, 1, xN),
  some (.getfield 93, 3, xF 0 28 2), none, none, some (.iload_n 1, 1, xN), some (.iaload, 1, xN), some (.bipush 17, 2, xI (17)), none, some (.if_icmp .ne (39), 3, xJ 294),
  none, none, some (.iload_n 2, 1, xN), some (.ifCond .eq (27), 3, xJ 286), none, none, some (.aload_n 0, 1, xN), some (.iload_n 1, 1, xN),
  some (.iload_n 3, 1, xN), some (.invokevirtual 290, 3, xN), none, none, some (.ifCond .eq (14), 3, xJ 282), none, none, some (.aload_n 0, 1, xN),
  some (.iload_n 1, 1, xN), some (.iload_n 3, 1, xN), some (.invokevirtual 299, 3, xN), none, none, some (.bipush 23, 2, xI (23)), none, some (.if_icmp .ne (7), 3, xJ 286),
  none, none, some (.iconst 1, 1, xI (1)), some (.goto (4), 3, xJ 287), none, none, some (.iconst 0, 1, xI (0)), some (.istore_n 2, 1, xN),
  some (.iinc 3 (1), 3, xI (1)), none, none, some (.goto (-50), 3, xJ 241), none, none, some (.iload_n 2, 1, xN), some (.ireturn, 1, xN)]
def M_Mo_isRight : am_Me := (⟨R_Mo, "isRight", "(I)Z"⟩, prog_14_method_43_code, 4, (some .boolean), Y_Mo, cd_Mo_isRight, 4, 97, 0, 0)
set_option maxRecDepth 100000 in
theorem ok_Mo_isRight : am_ok S_m M_Mo_isRight := am_ok_ofY (Y := Y_Mo) (cd := cd_Mo_isRight) (by decide +kernel) rfl rfl rfl oY_Mo (by decide +kernel)
def cd_Mo_range : List (Option am_I) := [some (.aload_n 0, 1, xN), some (.getfield 340, 3, xF 0 33 0), none, none, some (.sipush 300, 3, xI (300)), none, none, some (.if_icmp .eq (10), 3, xJ 17),
  none, none, some (.aload_n 0, 1, xN), some (.getfield 164, 3, xF 0 8 3), none, none, some (.ifCond .eq (5), 3, xJ 19), none,
  none, some (.iconst 0, 1, xI (0)), some (.ireturn, 1, xN), some (.aload_n 0, 1, xN), some (.getfield 111, 3, xF 0 35 2), none, none, some (.aload_n 0, 1, xN),
  some (.getfield 340, 3, xF 0 33 0), none, none, some (.lload_n 1, 1, xN), some (.lastore, 1, xN), some (.aload_n 0, 1, xN), some (.getfield 114, 3, xF 0 36 2), none,
  none, some (.aload_n 0, 1, xN), some (.getfield 340, 3, xF 0 33 0), none, none, some (.lload_n 3, 1, xN), some (.lastore, 1, xN), some (.aload_n 0, 1, xN),
  some (.dup, 1, xN), some (.getfield 340, 3, xF 0 33 0), none, none, some (.iconst 1, 1, xI (1)), some (.iadd, 1, xN), some (.putfield 340, 3, xF 0 33 0), none,
  none, some (.iconst 1, 1, xI (1)), some (.ireturn, 1, xN)]
def M_Mo_range : am_Me := (⟨R_Mo, "range", "(JJ)Z"⟩, prog_14_method_44_code, 5, (some .boolean), Y_Mo, cd_Mo_range, 0, 0, 0, 0)
set_option maxRecDepth 100000 in
theorem ok_Mo_range : am_ok S_m M_Mo_range := am_ok_ofY (Y := Y_Mo) (cd := cd_Mo_range) (by decide +kernel) rfl rfl rfl oY_Mo (by decide +kernel)
def cd_Mo_rangeByIndex : List (Option am_I) := [some (.aload_n 0, 1, xN), some (.iload_n 1, 1, xN), some (.aload_n 0, 1, xN), some (.iconst 0, 1, xI (0)), some (.invokevirtual 227, 3, xN), none, none, some (.invokevirtual 317, 3, xN),
  none, none, some (.ifCond .eq (10), 3, xJ 20), none, none, some (.aload_n 0, 1, xN), some (.getfield 164, 3, xF 0 8 3), none,
  none, some (.ifCond .eq (5), 3, xJ 22), none, none, some (.iconst 0, 1, xI (0)), some (.ireturn, 1, xN), some (.aload_n 0, 1, xN), some (.getfield 313, 3, xF 0 37 1),
  none, none, some (.lstore_n 3, 1, xN), some (.aload_n 0, 1, xN), some (.iconst 0, 1, xI (0)), some (.invokevirtual 227, 3, xN), none, none,
  some (.lstore 5, 2, xN), none, some (.iload_n 2, 1, xN), some (.iconst 3, 1, xI (3)), some (.if_icmp .ne (13), 3, xJ 49), none, none, some (.aload_n 0, 1, xN),
  some (.lload_n 3, 1, xN), some (.lload_n 3, 1, xN), some (.lload 5, 2, xN), none, some (.ladd, 1, xN), some (.invokevirtual 343, 3, xN), none, none,
  some (.ireturn, 1, xN), some (.aload_n 0, 1, xN), some (.getfield 164, 3, xF 0 8 3), none, none, some (.ifCond .ne (29), 3, xJ 82), none, none,
  some (.aload_n 0, 1, xN), some (.iload_n 1, 1, xN), some (.lload 5, 2, xN), none, some (.invokevirtual 317, 3, xN), none, none, some (.ifCond .eq (19), 3, xJ 82),
  none, none, some (.aload_n 0, 1, xN), some (.lload_n 3, 1, xN), some (.aload_n 0, 1, xN), some (.getfield 313, 3, xF 0 37 1), none, none,
  some (.invokevirtual 343, 3, xN), none, none, some (.ifCond .eq (7), 3, xJ 82), none, none, some (.iconst 1, 1, xI (1)), some (.goto (4), 3, xJ 83),
  none, none, some (.iconst 0, 1, xI (0)), some (.ireturn, 1, xN)]
def M_Mo_rangeByIndex : am_Me := (⟨R_Mo, "rangeByIndex", "(II)Z"⟩, prog_14_method_45_code, 7, (some .boolean), Y_Mo, cd_Mo_rangeByIndex, 3, 75, 0, 0)
set_option maxRecDepth 100000 in
theorem ok_Mo_rangeByIndex : am_ok S_m M_Mo_rangeByIndex := am_ok_ofY (Y := Y_Mo) (cd := cd_Mo_rangeByIndex) (by decide +kernel) rfl rfl rfl oY_Mo (by decide +kernel)
def cd_Mo_readList : List (Option am_I) := [some (.aload_n 0, 1, xN), some (.getfield 84, 3, xF 0 25 2), none, none, some (.aload_n 0, 1, xN), some (.getfield 99, 3, xF 0 30 2), none, none,
  some (.iload_n 1, 1, xN), some (.iaload, 1, xN), some (.iaload, 1, xN), some (.istore_n 2, 1, xN), some (.aload_n 0, 1, xN), some (.iload_n 2, 1, xN), some (.iconst 1, 1, xI (1)), some (.invokevirtual 290, 3, xN),
  none, none, some (.ifCond .eq (19), 3, xJ 37), none, none, some (.aload_n 0, 1, xN), some (.iload_n 2, 1, xN), some (.iconst 1, 1, xI (1)),
  some (.invokevirtual 331, 3, xN), none, none, some (.ifCond .eq (10), 3, xJ 37), none, none, some (.aload_n 0, 1, xN), some (.getfield 313, 3, xF 0 37 1),
  none, none, some (.goto (4), 3, xJ 38), none, none, some (.lconst 0, 1, xL 0), some (.lstore_n 3, 1, xN), some (.iconst 1, 1, xI (1)),
  some (.istore 5, 2, xN), none, some (.iconst 1, 1, xI (1)), some (.istore 6, 2, xN), none, some (.iload 5, 2, xN), none, some (.ifCond .eq (214), 3, xJ 261),
  none, none, some (.iload 6, 2, xN), none, some (.ifCond .eq (209), 3, xJ 261), none, none, some (.aload_n 0, 1, xN),
  some (.iconst 1, 1, xI (1)), some (.invokevirtual 177, 3, xN), none, none, some (.l2i, 1, xN), some (.istore 6, 2, xN), none, some (.aload_n 0, 1, xN),
  some (.getfield 164, 3, xF 0 8 3), none, none, some (.ifCond .ne (10), 3, xJ 77), none, none, some (.iload 6, 2, xN), none,
  some (.bipush 7, 2, xI (7)), none, some (.if_icmp .le (5), 3, xJ 79), none, none, some (.iconst 0, 1, xI (0)), some (.ireturn, 1, xN), some (.iload 6, 2, xN),
  none, some (.iconst 1, 1, xI (1)), some (.if_icmp .ne (38), 3, xJ 120), none, none, some (.aload_n 0, 1, xN), some (.iload_n 1, 1, xN), some (.aload_n 0, 1, xN),
  some (.iconst 0, 1, xI (0)), some (.invokevirtual 227, 3, xN), none, none, some (.invokevirtual 317, 3, xN), none, none, some (.ifCond .eq (14), 3, xJ 109),
  none, none, some (.aload_n 0, 1, xN), some (.getfield 164, 3, xF 0 8 3), none, none, some (.ifCond .ne (7), 3, xJ 109), none,
  none, some (.iconst 1, 1, xI (1)), some (.goto (4), 3, xJ 110), none, none, some (.iconst 0, 1, xI (0)), some (.istore 5, 2, xN), none,
  some (.aload_n 0, 1, xN), some (.getfield 313, 3, xF 0 37 1), none, none, some (.lstore_n 3, 1, xN), some (.goto (122), 3, xJ 239), none, none,
  some (.iload 6, 2, xN), none, some (.iconst 2, 1, xI (2)), some (.if_icmp .eq (9), 3, xJ 132), none, none, some (.iload 6, 2, xN), none,
  some (.iconst 3, 1, xI (3)), some (.if_icmp .ne (15), 3, xJ 144), none, none, some (.aload_n 0, 1, xN), some (.iload_n 1, 1, xN), some (.iload 6, 2, xN), none,
  some (.invokevirtual 347, 3, xN), none, none, some (.istore 5, 2, xN), none, some (.goto (98), 3, xJ 239), none, none,
  some (.iload 6, 2, xN), none, some (.iconst 4, 1, xI (4)), some (.if_icmp .ne (30), 3, xJ 177), none, none, some (.lload_n 3, 1, xN), some (.aload_n 0, 1, xN),
  some (.iconst 0, 1, xI (0)), some (.invokevirtual 227, 3, xN), none, none, some (.ladd, 1, xN), some (.lstore 7, 2, xN), none, some (.aload_n 0, 1, xN),
  some (.lload 7, 2, xN), none, some (.lload_n 3, 1, xN), some (.aload_n 0, 1, xN), some (.iconst 0, 1, xI (0)), some (.invokevirtual 227, 3, xN), none, none,
  some (.ladd, 1, xN), some (.invokevirtual 343, 3, xN), none, none, some (.istore 5, 2, xN), none, some (.goto (65), 3, xJ 239), none,
  none, some (.iload 6, 2, xN), none, some (.iconst 5, 1, xI (5)), some (.if_icmp .ne (13), 3, xJ 193), none, none, some (.aload_n 0, 1, xN),
  some (.bipush 8, 2, xI (8)), none, some (.invokevirtual 177, 3, xN), none, none, some (.lstore_n 3, 1, xN), some (.goto (49), 3, xJ 239), none,
  none, some (.iload 6, 2, xN), none, some (.iconst 5, 1, xI (5)), some (.if_icmp .le (43), 3, xJ 239), none, none, some (.aload_n 0, 1, xN),
  some (.bipush 8, 2, xI (8)), none, some (.invokevirtual 177, 3, xN), none, none, some (.lstore 7, 2, xN), none, some (.aload_n 0, 1, xN),
  some (.lload 7, 2, xN), none, some (.iload 6, 2, xN), none, some (.bipush 6, 2, xI (6)), none, some (.if_icmp .ne (12), 3, xJ 226), none,
  none, some (.aload_n 0, 1, xN), some (.bipush 8, 2, xI (8)), none, some (.invokevirtual 177, 3, xN), none, none, some (.goto (11), 3, xJ 234),
  none, none, some (.lload 7, 2, xN), none, some (.aload_n 0, 1, xN), some (.iconst 0, 1, xI (0)), some (.invokevirtual 227, 3, xN), none,
  none, some (.ladd, 1, xN), some (.invokevirtual 343, 3, xN), none, none, some (.istore 5, 2, xN), none, some (.iload 5, 2, xN),
  none, some (.ifCond .eq (14), 3, xJ 255), none, none, some (.aload_n 0, 1, xN), some (.getfield 164, 3, xF 0 8 3), none, none,
  some (.ifCond .ne (7), 3, xJ 255), none, none, some (.iconst 1, 1, xI (1)), some (.goto (4), 3, xJ 256), none, none, some (.iconst 0, 1, xI (0)),
  some (.istore 5, 2, xN), none, some (.goto (-213), 3, xJ 45), none, none, some (.iload 5, 2, xN), none, some (.ireturn, 1, xN)]
def M_Mo_readList : am_Me := (⟨R_Mo, "readList", "(I)Z"⟩, prog_14_method_46_code, 9, (some .boolean), Y_Mo, cd_Mo_readList, 4, 101, 0, 0)
set_option maxRecDepth 100000 in
theorem ok_Mo_readList : am_ok S_m M_Mo_readList := am_ok_ofY (Y := Y_Mo) (cd := cd_Mo_readList) (by decide +kernel) rfl rfl rfl oY_Mo (by decide +kernel)
def cd_Mo_readRanges : List (Option am_I) := [some (.aload_n 0, 1, xN), some (.iload_n 1, 1, xN), some (.iconst 3, 1, xI (3)), some (.invokevirtual 290, 3, xN), none, none, some (.ifCond .ne (118), 3, xJ 124), none,
  none, some (.aload_n 0, 1, xN), some (.iload_n 1, 1, xN), some (.iconst 1, 1, xI (1)), some (.invokevirtual 290, 3, xN), none, none, some (.ifCond .eq (12), 3, xJ 27),
  none, none, some (.aload_n 0, 1, xN), some (.iload_n 1, 1, xN), some (.iconst 2, 1, xI (2)), some (.invokevirtual 290, 3, xN), none, none,
  some (.ifCond .ne (5), 3, xJ 29), none, none, some (.iconst 1, 1, xI (1)), some (.ireturn, 1, xN), some (.aload_n 0, 1, xN), some (.iload_n 1, 1, xN), some (.iconst 1, 1, xI (1)),
  some (.invokevirtual 331, 3, xN), none, none, some (.istore_n 2, 1, xN), some (.aload_n 0, 1, xN), some (.getfield 313, 3, xF 0 37 1), none, none,
  some (.lstore_n 3, 1, xN), some (.aload_n 0, 1, xN), some (.iload_n 1, 1, xN), some (.iconst 2, 1, xI (2)), some (.invokevirtual 299, 3, xN), none, none, some (.invokestatic 334, 3, xN),
  none, none, some (.ifCond .ne (12), 3, xJ 62), none, none, some (.aload_n 0, 1, xN), some (.iload_n 1, 1, xN), some (.iconst 2, 1, xI (2)),
  some (.invokevirtual 331, 3, xN), none, none, some (.ifCond .eq (7), 3, xJ 66), none, none, some (.iconst 1, 1, xI (1)), some (.goto (4), 3, xJ 67),
  none, none, some (.iconst 0, 1, xI (0)), some (.istore 5, 2, xN), none, some (.aload_n 0, 1, xN), some (.iconst 0, 1, xI (0)), some (.putfield 164, 3, xF 0 8 3),
  none, none, some (.iload_n 2, 1, xN), some (.ifCond .eq (47), 3, xJ 122), none, none, some (.iload 5, 2, xN), none,
  some (.ifCond .eq (42), 3, xJ 122), none, none, some (.aload_n 0, 1, xN), some (.lload_n 3, 1, xN), some (.aload_n 0, 1, xN), some (.iload_n 1, 1, xN), some (.iconst 2, 1, xI (2)),
  some (.invokevirtual 299, 3, xN), none, none, some (.invokestatic 334, 3, xN), none, none, some (.ifCond .eq (14), 3, xJ 108), none,
  none, some (.lload_n 3, 1, xN), some (.aload_n 0, 1, xN), some (.iload_n 1, 1, xN), some (.iconst 2, 1, xI (2)), some (.invokevirtual 294, 3, xN), none, none,
  some (.ladd, 1, xN), some (.goto (7), 3, xJ 112), none, none, some (.aload_n 0, 1, xN), some (.getfield 313, 3, xF 0 37 1), none, none,
  some (.invokevirtual 343, 3, xN), none, none, some (.ifCond .eq (7), 3, xJ 122), none, none, some (.iconst 1, 1, xI (1)), some (.goto (4), 3, xJ 123),
  none, none, some (.iconst 0, 1, xI (0)), some (.ireturn, 1, xN), some (.aload_n 0, 1, xN), some (.iload_n 1, 1, xN), some (.iconst 3, 1, xI (3)), some (.invokevirtual 294, 3, xN),
  none, none, some (.lstore_n 2, 1, xN), some (.aload_n 0, 1, xN), some (.iload_n 1, 1, xN), some (.iconst 3, 1, xI (3)), some (.invokevirtual 299, 3, xN), none,
  none, some (.bipush 35, 2, xI (35)), none, some (.if_icmp .ne (43), 3, xJ 182), none, none, some (.aload_n 0, 1, xN), some (.iload_n 1, 1, xN),
  some (.bipush 10, 2, xI (10)), none, some (.invokevirtual 306, 3, xN), none, none, some (.lstore 4, 2, xN), none, some (.aload_n 0, 1, xN),
  some (.bipush 6, 2, xI (6)), none, some (.lload 4, 2, xN), none, some (.lload_n 2, 1, xN), some (.iconst 4, 1, xI (4)), some (.invokevirtual 309, 3, xN), none,
  none, some (.istore 6, 2, xN), none, some (.iload 6, 2, xN), none, some (.iconst (-1), 1, xI (-1)), some (.if_icmp .ne (5), 3, xJ 171), none,
  none, some (.iconst 0, 1, xI (0)), some (.ireturn, 1, xN), some (.lload 4, 2, xN), none, some (.aload_n 0, 1, xN), some (.iload 6, 2, xN), none,
  some (.iconst 4, 1, xI (4)), some (.invokevirtual 173, 3, xN), none, none, some (.ladd, 1, xN), some (.lstore_n 2, 1, xN), some (.aload_n 0, 1, xN), some (.bipush 6, 2, xI (6)),
  none, some (.lload_n 2, 1, xN), some (.invokevirtual 240, 3, xN), none, none, some (.aload_n 0, 1, xN), some (.iload_n 1, 1, xN), some (.invokevirtual 350, 3, xN),
  none, none, some (.ireturn, 1, xN)]
def M_Mo_readRanges : am_Me := (⟨R_Mo, "readRanges", "(I)Z"⟩, prog_14_method_47_code, 7, (some .boolean), Y_Mo, cd_Mo_readRanges, 5, 129, 0, 0)
set_option maxRecDepth 100000 in
theorem ok_Mo_readRanges : am_ok S_m M_Mo_readRanges := am_ok_ofY (Y := Y_Mo) (cd := cd_Mo_readRanges) (by decide +kernel) rfl rfl rfl oY_Mo (by decide +kernel)
def cd_Mo_readValues : List (Option am_I) := [some (.iconst 1, 1, xI (1)), some (.istore_n 1, 1, xN), some (.iconst 0, 1, xI (0)), some (.istore_n 2, 1, xN), some (.iload_n 2, 1, xN), some (.aload_n 0, 1, xN), some (.getfield 257, 3, xF 0 22 0), none,
  none, some (.if_icmp .ge (99), 3, xJ 108), none, none, some (.iload_n 1, 1, xN), some (.ifCond .eq (95), 3, xJ 108), none, none,
  some (.aload_n 0, 1, xN), some (.getfield 108, 3, xF 0 34 2), none, none, some (.iload_n 2, 1, xN), some (.aload_n 0, 1, xN), some (.getfield 340, 3, xF 0 33 0), none,
  none, some (.iastore, 1, xN), some (.aload_n 0, 1, xN), some (.getfield 93, 3, xF 0 28 2), none, none, some (.iload_n 2, 1, xN), some (.iaload, 1, xN),
  some (.bipush 17, 2, xI (17)), none, some (.if_icmp .eq (36), 3, xJ 70), none, none, some (.aload_n 0, 1, xN), some (.getfield 93, 3, xF 0 28 2), none,
  none, some (.iload_n 2, 1, xN), some (.iaload, 1, xN), some (.bipush 46, 2, xI (46)), none, some (.if_icmp .eq (25), 3, xJ 70), none, none,
  some (.aload_n 0, 1, xN), some (.getfield 93, 3, xF 0 28 2), none, none, some (.iload_n 2, 1, xN), some (.iaload, 1, xN), some (.bipush 29, 2, xI (29)), none,
  some (.if_icmp .eq (14), 3, xJ 70), none, none, some (.aload_n 0, 1, xN), some (.getfield 93, 3, xF 0 28 2), none, none, some (.iload_n 2, 1, xN),
  some (.iaload, 1, xN), some (.bipush 11, 2, xI (11)), none, some (.if_icmp .ne (7), 3, xJ 74), none, none, some (.iconst 1, 1, xI (1)), some (.goto (4), 3, xJ 75),
  none, none, some (.iconst 0, 1, xI (0)), some (.istore_n 3, 1, xN), some (.iload_n 3, 1, xN), some (.ifCond .eq (19), 3, xJ 96), none, none,
  some (.aload_n 0, 1, xN), some (.iload_n 2, 1, xN), some (.invokevirtual 353, 3, xN), none, none, some (.ifCond .eq (15), 3, xJ 100), none, none,
  some (.aload_n 0, 1, xN), some (.iload_n 2, 1, xN), some (.invokevirtual 356, 3, xN), none, none, some (.ifCond .eq (7), 3, xJ 100), none, none,
  some (.iconst 1, 1, xI (1)), some (.goto (4), 3, xJ 101), none, none, some (.iconst 0, 1, xI (0)), some (.istore_n 1, 1, xN), some (.iinc 2 (1), 3, xI (1)), none,
  none, some (.goto (-101), 3, xJ 4), none, none, some (.aload_n 0, 1, xN), some (.getfield 108, 3, xF 0 34 2), none, none,
  some (.aload_n 0, 1, xN), some (.getfield 257, 3, xF 0 22 0), none, none, some (.aload_n 0, 1, xN), some (.getfield 340, 3, xF 0 33 0), none, none,
  some (.iastore, 1, xN), some (.iload_n 1, 1, xN), some (.ireturn, 1, xN)]
def M_Mo_readValues : am_Me := (⟨R_Mo, "readValues", "()Z"⟩, prog_14_method_48_code, 4, (some .boolean), Y_Mo, cd_Mo_readValues, 6, 155, 0, 0)
set_option maxRecDepth 100000 in
theorem ok_Mo_readValues : am_ok S_m M_Mo_readValues := am_ok_ofY (Y := Y_Mo) (cd := cd_Mo_readValues) (by decide +kernel) rfl rfl rfl oY_Mo (by decide +kernel)
def cd_Mo_begin : List (Option am_I) := [some (.aload_n 0, 1, xN), some (.lconst 0, 1, xL 0), some (.putfield 359, 3, xF 0 47 1), none, none, some (.aload_n 0, 1, xN), some (.lconst 1, 1, xL 1), some (.putfield 362, 3, xF 0 48 1),
  none, none, some (.aload_n 0, 1, xN), some (.iconst 1, 1, xI (1)), some (.putfield 365, 3, xF 0 49 0), none, none, some (.return_, 1, xN)]
def M_Mo_begin : am_Me := (⟨R_Mo, "begin", "()V"⟩, prog_14_method_49_code, 1, none, Y_Mo, cd_Mo_begin, 0, 0, 0, 0)
set_option maxRecDepth 100000 in
theorem ok_Mo_begin : am_ok S_m M_Mo_begin := am_ok_ofY (Y := Y_Mo) (cd := cd_Mo_begin) (by decide +kernel) rfl rfl rfl oY_Mo (by decide +kernel)
def cd_Mo_row : List (Option am_I) := [some (.aload_n 0, 1, xN), some (.getfield 368, 3, xF 0 38 0), none, none, some (.sipush 400, 3, xI (400)), none, none, some (.if_icmp .ne (5), 3, xJ 12),
  none, none, some (.iconst 0, 1, xI (0)), some (.ireturn, 1, xN), some (.aload_n 0, 1, xN), some (.getfield 132, 3, xF 0 44 2), none, none,
  some (.aload_n 0, 1, xN), some (.getfield 368, 3, xF 0 38 0), none, none, some (.aload_n 0, 1, xN), some (.getfield 359, 3, xF 0 47 1), none, none,
  some (.lastore, 1, xN), some (.aload_n 0, 1, xN), some (.getfield 135, 3, xF 0 45 2), none, none, some (.aload_n 0, 1, xN), some (.getfield 368, 3, xF 0 38 0), none,
  none, some (.aload_n 0, 1, xN), some (.getfield 362, 3, xF 0 48 1), none, none, some (.lastore, 1, xN), some (.aload_n 0, 1, xN), some (.getfield 123, 3, xF 0 41 2),
  none, none, some (.aload_n 0, 1, xN), some (.getfield 368, 3, xF 0 38 0), none, none, some (.aload_n 0, 1, xN), some (.getfield 365, 3, xF 0 49 0),
  none, none, some (.iastore, 1, xN), some (.aload_n 0, 1, xN), some (.getfield 138, 3, xF 0 46 2), none, none, some (.aload_n 0, 1, xN),
  some (.getfield 368, 3, xF 0 38 0), none, none, some (.iload_n 1, 1, xN), some (.bastore, 1, xJ 3), some (.aload_n 0, 1, xN), some (.dup, 1, xN), some (.getfield 368, 3, xF 0 38 0),
  none, none, some (.iconst 1, 1, xI (1)), some (.iadd, 1, xN), some (.putfield 368, 3, xF 0 38 0), none, none, some (.iconst 1, 1, xI (1)),
  some (.ireturn, 1, xN)]
def M_Mo_row : am_Me := (⟨R_Mo, "row", "(Z)Z"⟩, prog_14_method_50_code, 2, (some .boolean), Y_Mo, cd_Mo_row, 0, 0, 0, 0)
set_option maxRecDepth 100000 in
theorem ok_Mo_row : am_ok S_m M_Mo_row := am_ok_ofY (Y := Y_Mo) (cd := cd_Mo_row) (by decide +kernel) rfl rfl rfl oY_Mo (by decide +kernel)
def cd_Mo_readWhats : List (Option am_I) := [some (.iconst (-1), 1, xI (-1)), some (.istore_n 2, 1, xN), some (.iconst 0, 1, xI (0)), some (.istore_n 3, 1, xN), some (.iload_n 3, 1, xN), some (.iload_n 1, 1, xN), some (.if_icmp .ge (135), 3, xJ 141), none,
  none, some (.aload_n 0, 1, xN), some (.iconst 0, 1, xI (0)), some (.invokevirtual 227, 3, xN), none, none, some (.lstore 4, 2, xN), none,
  some (.aload_n 0, 1, xN), some (.iconst 0, 1, xI (0)), some (.invokevirtual 227, 3, xN), none, none, some (.lstore 6, 2, xN), none, some (.aload_n 0, 1, xN),
  some (.getfield 164, 3, xF 0 8 3), none, none, some (.ifCond .ne (78), 3, xJ 105), none, none, some (.lload 6, 2, xN), none,
  some (.ldc2_w 207, 3, xL (8)), none, none, some (.lcmp, 1, xN), some (.ifCond .eq (39), 3, xJ 75), none, none, some (.lload 6, 2, xN),
  none, some (.ldc2_w 371, 3, xL (31)), none, none, some (.lcmp, 1, xN), some (.ifCond .eq (30), 3, xJ 75), none, none,
  some (.lload 6, 2, xN), none, some (.ldc2_w 373, 3, xL (11)), none, none, some (.lcmp, 1, xN), some (.ifCond .eq (21), 3, xJ 75), none,
  none, some (.lload 6, 2, xN), none, some (.ldc2_w 282, 3, xL (5)), none, none, some (.lcmp, 1, xN), some (.ifCond .eq (12), 3, xJ 75),
  none, none, some (.lload 6, 2, xN), none, some (.ldc2_w 375, 3, xL (15)), none, none, some (.lcmp, 1, xN),
  some (.ifCond .ne (33), 3, xJ 105), none, none, some (.lload 4, 2, xN), none, some (.lconst 1, 1, xL 1), some (.lcmp, 1, xN), some (.ifCond .ne (29), 3, xJ 108),
  none, none, some (.iload_n 2, 1, xN), some (.iconst (-1), 1, xI (-1)), some (.if_icmp .ne (24), 3, xJ 108), none, none, some (.lload 6, 2, xN),
  none, some (.ldc2_w 207, 3, xL (8)), none, none, some (.lcmp, 1, xN), some (.ifCond .eq (15), 3, xJ 108), none, none,
  some (.lload 6, 2, xN), none, some (.ldc2_w 371, 3, xL (31)), none, none, some (.lcmp, 1, xN), some (.ifCond .eq (6), 3, xJ 108), none,
  none, some (.bipush (-2), 2, xI (-2)), none, some (.ireturn, 1, xN), some (.aload_n 0, 1, xN), some (.getfield 129, 3, xF 0 43 2), none, none,
  some (.iload_n 3, 1, xN), some (.lload 6, 2, xN), none, some (.l2i, 1, xN), some (.iastore, 1, xN), some (.lload 4, 2, xN), none, some (.lconst 1, 1, xL 1),
  some (.lcmp, 1, xN), some (.ifCond .ne (12), 3, xJ 133), none, none, some (.iload_n 2, 1, xN), some (.iconst (-1), 1, xI (-1)), some (.if_icmp .ne (7), 3, xJ 133), none,
  none, some (.iload_n 3, 1, xN), some (.goto (4), 3, xJ 134), none, none, some (.iload_n 2, 1, xN), some (.istore_n 2, 1, xN), some (.iinc 3 (1), 3, xI (1)),
  none, none, some (.goto (-134), 3, xJ 4), none, none, some (.iload_n 2, 1, xN), some (.ireturn, 1, xN)]
def M_Mo_readWhats : am_Me := (⟨R_Mo, "readWhats", "(I)I"⟩, prog_14_method_51_code, 8, (some .int), Y_Mo, cd_Mo_readWhats, 3, 71, 0, 0)
set_option maxRecDepth 100000 in
theorem ok_Mo_readWhats : am_ok S_m M_Mo_readWhats := am_ok_ofY (Y := Y_Mo) (cd := cd_Mo_readWhats) (by decide +kernel) rfl rfl rfl oY_Mo (by decide +kernel)
def cd_Mo_readOne : List (Option am_I) := [some (.iconst (-1), 1, xI (-1)), some (.istore_n 3, 1, xN), some (.iconst 0, 1, xI (0)), some (.istore 4, 2, xN), none, some (.iload 4, 2, xN), none, some (.iload_n 1, 1, xN),
  some (.if_icmp .ge (83), 3, xJ 91), none, none, some (.aload_n 0, 1, xN), some (.getfield 164, 3, xF 0 8 3), none, none, some (.ifCond .ne (76), 3, xJ 91),
  none, none, some (.aload_n 0, 1, xN), some (.aload_n 0, 1, xN), some (.getfield 129, 3, xF 0 43 2), none, none, some (.iload 4, 2, xN),
  none, some (.iaload, 1, xN), some (.lconst 0, 1, xL 0), some (.invokevirtual 266, 3, xN), none, none, some (.lstore 5, 2, xN), none,
  some (.iload 4, 2, xN), none, some (.iload_n 2, 1, xN), some (.if_icmp .ne (50), 3, xJ 85), none, none, some (.aload_n 0, 1, xN), some (.getfield 164, 3, xF 0 8 3),
  none, none, some (.ifCond .ne (43), 3, xJ 85), none, none, some (.aload_n 0, 1, xN), some (.getfield 129, 3, xF 0 43 2), none,
  none, some (.iload 4, 2, xN), none, some (.iaload, 1, xN), some (.bipush 8, 2, xI (8)), none, some (.if_icmp .ne (9), 3, xJ 63), none,
  none, some (.lload 5, 2, xN), none, some (.l2i, 1, xN), some (.goto (10), 3, xJ 70), none, none, some (.aload_n 0, 1, xN),
  some (.iconst 3, 1, xI (3)), some (.lload 5, 2, xN), none, some (.invokevirtual 302, 3, xN), none, none, some (.istore_n 3, 1, xN), some (.aload_n 0, 1, xN),
  some (.iload_n 3, 1, xN), some (.iconst (-1), 1, xI (-1)), some (.if_icmp .ne (7), 3, xJ 81), none, none, some (.iconst 1, 1, xI (1)), some (.goto (4), 3, xJ 82), none,
  none, some (.iconst 0, 1, xI (0)), some (.putfield 164, 3, xF 0 8 3), none, none, some (.iinc 4 (1), 3, xI (1)), none, none,
  some (.goto (-83), 3, xJ 5), none, none, some (.aload_n 0, 1, xN), some (.getfield 164, 3, xF 0 8 3), none, none, some (.ifCond .eq (8), 3, xJ 103),
  none, none, some (.bipush (-2), 2, xI (-2)), none, some (.goto (4), 3, xJ 104), none, none, some (.iload_n 3, 1, xN),
  some (.ireturn, 1, xN)]
def M_Mo_readOne : am_Me := (⟨R_Mo, "readOne", "(II)I"⟩, prog_14_method_52_code, 7, (some .int), Y_Mo, cd_Mo_readOne, 4, 94, 0, 0)
set_option maxRecDepth 100000 in
theorem ok_Mo_readOne : am_ok S_m M_Mo_readOne := am_ok_ofY (Y := Y_Mo) (cd := cd_Mo_readOne) (by decide +kernel) rfl rfl rfl oY_Mo (by decide +kernel)
def cd_Mo_readTable : List (Option am_I) := [some (.aload_n 0, 1, xN), some (.iconst 1, 1, xI (1)), some (.invokevirtual 177, 3, xN), none, none, some (.l2i, 1, xN), some (.istore_n 3, 1, xN), some (.aload_n 0, 1, xN),
  some (.getfield 164, 3, xF 0 8 3), none, none, some (.ifCond .ne (9), 3, xJ 20), none, none, some (.iload_n 3, 1, xN), some (.bipush 6, 2, xI (6)),
  none, some (.if_icmp .le (8), 3, xJ 25), none, none, some (.bipush (-2), 2, xI (-2)), none, some (.goto (8), 3, xJ 30), none,
  none, some (.aload_n 0, 1, xN), some (.iload_n 3, 1, xN), some (.invokevirtual 377, 3, xN), none, none, some (.istore 4, 2, xN), none,
  some (.aload_n 0, 1, xN), some (.iconst 0, 1, xI (0)), some (.invokevirtual 227, 3, xN), none, none, some (.lstore 5, 2, xN), none, some (.iload 4, 2, xN),
  none, some (.bipush (-2), 2, xI (-2)), none, some (.if_icmp .eq (26), 3, xJ 69), none, none, some (.aload_n 0, 1, xN), some (.getfield 164, 3, xF 0 8 3),
  none, none, some (.ifCond .ne (19), 3, xJ 69), none, none, some (.iload_n 2, 1, xN), some (.ifCond .eq (17), 3, xJ 71), none,
  none, some (.lload 5, 2, xN), none, some (.lconst 0, 1, xL 0), some (.ldc2_w 380, 3, xL (30)), none, none, some (.invokestatic 201, 3, xN),
  none, none, some (.ifCond .ne (5), 3, xJ 71), none, none, some (.iconst 0, 1, xI (0)), some (.ireturn, 1, xN), some (.iload_n 2, 1, xN),
  some (.ifCond .eq (12), 3, xJ 84), none, none, some (.aload_n 0, 1, xN), some (.getfield 117, 3, xF 0 39 2), none, none, some (.iload_n 1, 1, xN),
  some (.lload 5, 2, xN), none, some (.l2i, 1, xN), some (.iastore, 1, xN), some (.lconst 0, 1, xL 0), some (.lstore 7, 2, xN), none, some (.lload 7, 2, xN),
  none, some (.lload 5, 2, xN), none, some (.lcmp, 1, xN), some (.ifCond .lt (10), 3, xJ 102), none, none, some (.lload 5, 2, xN),
  none, some (.lconst 0, 1, xL 0), some (.lcmp, 1, xN), some (.ifCond .ge (7), 3, xJ 106), none, none, some (.iload_n 3, 1, xN), some (.ifCond .gt (15), 3, xJ 118),
  none, none, some (.iload_n 2, 1, xN), some (.ifCond .eq (57), 3, xJ 164), none, none, some (.lload 7, 2, xN), none,
  some (.lload 5, 2, xN), none, some (.lcmp, 1, xN), some (.ifCond .ge (49), 3, xJ 164), none, none, some (.aload_n 0, 1, xN), some (.iload_n 3, 1, xN),
  some (.iload 4, 2, xN), none, some (.invokevirtual 382, 3, xN), none, none, some (.istore 9, 2, xN), none, some (.iload 9, 2, xN),
  none, some (.bipush (-2), 2, xI (-2)), none, some (.if_icmp .ne (5), 3, xJ 136), none, none, some (.iconst 0, 1, xI (0)), some (.ireturn, 1, xN),
  some (.iload_n 2, 1, xN), some (.ifCond .eq (18), 3, xJ 155), none, none, some (.aload_n 0, 1, xN), some (.getfield 120, 3, xF 0 40 2), none, none,
  some (.bipush 30, 2, xI (30)), none, some (.iload_n 1, 1, xN), some (.imul, 1, xN), some (.lload 7, 2, xN), none, some (.l2i, 1, xN), some (.iadd, 1, xN),
  some (.iload 9, 2, xN), none, some (.iastore, 1, xN), some (.lload 7, 2, xN), none, some (.lconst 1, 1, xL 1), some (.ladd, 1, xN), some (.lstore 7, 2, xN),
  none, some (.goto (-74), 3, xJ 87), none, none, some (.iconst 1, 1, xI (1)), some (.ireturn, 1, xN)]
def M_Mo_readTable : am_Me := (⟨R_Mo, "readTable", "(IZ)Z"⟩, prog_14_method_53_code, 10, (some .boolean), Y_Mo, cd_Mo_readTable, 5, 120, 0, 0)
set_option maxRecDepth 100000 in
theorem ok_Mo_readTable : am_ok S_m M_Mo_readTable := am_ok_ofY (Y := Y_Mo) (cd := cd_Mo_readTable) (by decide +kernel) rfl rfl rfl oY_Mo (by decide +kernel)
def cd_Mo_longCode : List (Option am_I) := [some (.aload_n 0, 1, xN), some (.iconst 0, 1, xI (0)), some (.invokevirtual 227, 3, xN), none, none, some (.lstore_n 1, 1, xN), some (.aload_n 0, 1, xN), some (.getfield 164, 3, xF 0 8 3),
  none, none, some (.ifCond .ne (21), 3, xJ 31), none, none, some (.lload_n 1, 1, xN), some (.lconst 1, 1, xL 1), some (.aload_n 0, 1, xN),
  some (.getfield 170, 3, xF 0 7 0), none, none, some (.aload_n 0, 1, xN), some (.getfield 167, 3, xF 0 6 0), none, none, some (.isub, 1, xN),
  some (.i2l, 1, xN), some (.invokestatic 201, 3, xN), none, none, some (.ifCond .ne (5), 3, xJ 33), none, none, some (.iconst 0, 1, xI (0)),
  some (.ireturn, 1, xN), some (.aload_n 0, 1, xN), some (.getfield 167, 3, xF 0 6 0), none, none, some (.lload_n 1, 1, xN), some (.l2i, 1, xN), some (.iadd, 1, xN),
  some (.istore_n 3, 1, xN), some (.aload_n 0, 1, xN), some (.iconst 1, 1, xI (1)), some (.invokevirtual 177, 3, xN), none, none, some (.l2i, 1, xN), some (.istore 4, 2, xN),
  none, some (.iconst 1, 1, xI (1)), some (.istore 5, 2, xN), none, some (.iload 4, 2, xN), none, some (.iconst 1, 1, xI (1)), some (.if_icmp .ne (17), 3, xJ 72),
  none, none, some (.aload_n 0, 1, xN), some (.iconst 1, 1, xI (1)), some (.invokevirtual 385, 3, xN), none, none, some (.istore 5, 2, xN),
  none, some (.aload_n 0, 1, xN), some (.invokevirtual 389, 3, xN), none, none, some (.goto (43), 3, xJ 112), none, none,
  some (.iload 4, 2, xN), none, some (.iconst 2, 1, xI (2)), some (.if_icmp .ne (37), 3, xJ 112), none, none, some (.lload_n 1, 1, xN), some (.ldc2_w 392, 3, xL (9)),
  none, none, some (.lcmp, 1, xN), some (.ifCond .lt (7), 3, xJ 90), none, none, some (.iconst 1, 1, xI (1)), some (.goto (4), 3, xJ 91),
  none, none, some (.iconst 0, 1, xI (0)), some (.istore 5, 2, xN), none, some (.aload_n 0, 1, xN), some (.iload 5, 2, xN), none,
  some (.ifCond .eq (12), 3, xJ 108), none, none, some (.aload_n 0, 1, xN), some (.bipush 8, 2, xI (8)), none, some (.invokevirtual 177, 3, xN), none,
  none, some (.goto (4), 3, xJ 109), none, none, some (.lconst 0, 1, xL 0), some (.putfield 359, 3, xF 0 47 1), none, none,
  some (.aload_n 0, 1, xN), some (.iload_n 3, 1, xN), some (.putfield 167, 3, xF 0 6 0), none, none, some (.iload 5, 2, xN), none, some (.ireturn, 1, xN)]
def M_Mo_longCode : am_Me := (⟨R_Mo, "longCode", "()Z"⟩, prog_14_method_54_code, 6, (some .boolean), Y_Mo, cd_Mo_longCode, 3, 71, 0, 0)
set_option maxRecDepth 100000 in
theorem ok_Mo_longCode : am_ok S_m M_Mo_longCode := am_ok_ofY (Y := Y_Mo) (cd := cd_Mo_longCode) (by decide +kernel) rfl rfl rfl oY_Mo (by decide +kernel)
def cd_Mo_code : List (Option am_I) := [some (.iload_n 1, 1, xN), some (.aload_n 0, 1, xN), some (.getfield 394, 3, xF 0 50 0), none, none, some (.if_icmp .lt (55), 3, xJ 60), none, none,
  some (.aload_n 0, 1, xN), some (.dup, 1, xN), some (.getfield 359, 3, xF 0 47 1), none, none, some (.iload_n 1, 1, xN), some (.aload_n 0, 1, xN), some (.getfield 394, 3, xF 0 50 0),
  none, none, some (.isub, 1, xN), some (.aload_n 0, 1, xN), some (.getfield 397, 3, xF 0 53 0), none, none, some (.idiv, 1, xN),
  some (.i2l, 1, xN), some (.ladd, 1, xN), some (.putfield 359, 3, xF 0 47 1), none, none, some (.aload_n 0, 1, xN), some (.dup, 1, xN), some (.getfield 365, 3, xF 0 49 0),
  none, none, some (.aload_n 0, 1, xN), some (.getfield 400, 3, xF 0 52 0), none, none, some (.iload_n 1, 1, xN), some (.aload_n 0, 1, xN),
  some (.getfield 394, 3, xF 0 50 0), none, none, some (.isub, 1, xN), some (.aload_n 0, 1, xN), some (.getfield 397, 3, xF 0 53 0), none, none,
  some (.irem, 1, xN), some (.iadd, 1, xN), some (.iadd, 1, xN), some (.putfield 365, 3, xF 0 49 0), none, none, some (.aload_n 0, 1, xN), some (.iconst 0, 1, xI (0)),
  some (.invokevirtual 385, 3, xN), none, none, some (.ireturn, 1, xN), some (.iload_n 1, 1, xN), some (.tableswitch (205) (0) (11) #[63, 68, 74, 101, 129, 205, 151, 151, 153, 178, 151, 151], 63, xN), none, none,
  none, none, none, none, none, none, none, none,
  none, none, none, none, none, none, none, none,
  none, none, none, none, none, none, none, none,
  none, none, none, none, none, none, none, none,
  none, none, none, none, none, none, none, none,
  none, none, none, none, none, none, none, none,
  none, none, none, none, none, none, none, none,
  none, none, none, none, some (.aload_n 0, 1, xN), some (.invokevirtual 403, 3, xN), none, none,
  some (.ireturn, 1, xN), some (.aload_n 0, 1, xN), some (.iconst 0, 1, xI (0)), some (.invokevirtual 385, 3, xN), none, none, some (.ireturn, 1, xN), some (.aload_n 0, 1, xN),
  some (.dup, 1, xN), some (.getfield 359, 3, xF 0 47 1), none, none, some (.aload_n 0, 1, xN), some (.iconst 0, 1, xI (0)), some (.invokevirtual 227, 3, xN), none,
  none, some (.ladd, 1, xN), some (.putfield 359, 3, xF 0 47 1), none, none, some (.aload_n 0, 1, xN), some (.getfield 164, 3, xF 0 8 3), none,
  none, some (.ifCond .ne (7), 3, xJ 160), none, none, some (.iconst 1, 1, xI (1)), some (.goto (4), 3, xJ 161), none, none,
  some (.iconst 0, 1, xI (0)), some (.ireturn, 1, xN), some (.aload_n 0, 1, xN), some (.dup, 1, xN), some (.getfield 365, 3, xF 0 49 0), none, none, some (.aload_n 0, 1, xN),
  some (.iconst 1, 1, xI (1)), some (.invokevirtual 227, 3, xN), none, none, some (.l2i, 1, xN), some (.iadd, 1, xN), some (.putfield 365, 3, xF 0 49 0), none,
  none, some (.aload_n 0, 1, xN), some (.getfield 164, 3, xF 0 8 3), none, none, some (.ifCond .ne (7), 3, xJ 188), none, none,
  some (.iconst 1, 1, xI (1)), some (.goto (4), 3, xJ 189), none, none, some (.iconst 0, 1, xI (0)), some (.ireturn, 1, xN), some (.aload_n 0, 1, xN), some (.aload_n 0, 1, xN),
  some (.iconst 0, 1, xI (0)), some (.invokevirtual 227, 3, xN), none, none, some (.putfield 362, 3, xF 0 48 1), none, none, some (.aload_n 0, 1, xN),
  some (.getfield 164, 3, xF 0 8 3), none, none, some (.ifCond .ne (7), 3, xJ 210), none, none, some (.iconst 1, 1, xI (1)), some (.goto (4), 3, xJ 211),
  none, none, some (.iconst 0, 1, xI (0)), some (.ireturn, 1, xN), some (.iconst 1, 1, xI (1)), some (.ireturn, 1, xN), some (.aload_n 0, 1, xN), some (.dup, 1, xN),
  some (.getfield 359, 3, xF 0 47 1), none, none, some (.sipush 255, 3, xI (255)), none, none, some (.aload_n 0, 1, xN), some (.getfield 394, 3, xF 0 50 0),
  none, none, some (.isub, 1, xN), some (.aload_n 0, 1, xN), some (.getfield 397, 3, xF 0 53 0), none, none, some (.idiv, 1, xN),
  some (.i2l, 1, xN), some (.ladd, 1, xN), some (.putfield 359, 3, xF 0 47 1), none, none, some (.iconst 1, 1, xI (1)), some (.ireturn, 1, xN), some (.aload_n 0, 1, xN),
  some (.dup, 1, xN), some (.getfield 359, 3, xF 0 47 1), none, none, some (.aload_n 0, 1, xN), some (.iconst 2, 1, xI (2)), some (.invokevirtual 177, 3, xN), none,
  none, some (.ladd, 1, xN), some (.putfield 359, 3, xF 0 47 1), none, none, some (.aload_n 0, 1, xN), some (.getfield 164, 3, xF 0 8 3), none,
  none, some (.ifCond .ne (7), 3, xJ 264), none, none, some (.iconst 1, 1, xI (1)), some (.goto (4), 3, xJ 265), none, none,
  some (.iconst 0, 1, xI (0)), some (.ireturn, 1, xN), some (.iload_n 1, 1, xN), some (.iconst 5, 1, xI (5)), some (.if_icmp .eq (9), 3, xJ 277), none, none, some (.iload_n 1, 1, xN),
  some (.bipush 12, 2, xI (12)), none, some (.if_icmp .ne (7), 3, xJ 281), none, none, some (.iconst 1, 1, xI (1)), some (.goto (20), 3, xJ 298), none,
  none, some (.aload_n 0, 1, xN), some (.getfield 45, 3, xF 0 2 2), none, none, some (.aload_n 0, 1, xN), some (.getfield 406, 3, xF 0 51 0), none,
  none, some (.iload_n 1, 1, xN), some (.iadd, 1, xN), some (.iconst 1, 1, xI (1)), some (.isub, 1, xN), some (.baload, 1, xJ 2), some (.sipush 255, 3, xI (255)), none,
  none, some (.iand, 1, xN), some (.istore_n 2, 1, xN), some (.iconst 0, 1, xI (0)), some (.istore_n 3, 1, xN), some (.iload_n 3, 1, xN), some (.iload_n 2, 1, xN), some (.if_icmp .ge (16), 3, xJ 319),
  none, none, some (.aload_n 0, 1, xN), some (.iconst 0, 1, xI (0)), some (.invokevirtual 227, 3, xN), none, none, some (.lstore 4, 2, xN),
  none, some (.iinc 3 (1), 3, xI (1)), none, none, some (.goto (-15), 3, xJ 301), none, none, some (.aload_n 0, 1, xN),
  some (.getfield 164, 3, xF 0 8 3), none, none, some (.ifCond .ne (7), 3, xJ 330), none, none, some (.iconst 1, 1, xI (1)), some (.goto (4), 3, xJ 331),
  none, none, some (.iconst 0, 1, xI (0)), some (.ireturn, 1, xN)]
def M_Mo_code : am_Me := (⟨R_Mo, "code", "(I)Z"⟩, prog_14_method_55_code, 6, (some .boolean), Y_Mo, cd_Mo_code, 4, 96, 0, 0)
set_option maxRecDepth 100000 in
theorem ok_Mo_code : am_ok S_m M_Mo_code := am_ok_ofY (Y := Y_Mo) (cd := cd_Mo_code) (by decide +kernel) rfl rfl rfl oY_Mo (by decide +kernel)
def cd_Mo_readLines : List (Option am_I) := [some (.aload_n 0, 1, xN), some (.bipush 7, 2, xI (7)), none, some (.aload_n 0, 1, xN), some (.aload_n 0, 1, xN), some (.getfield 84, 3, xF 0 25 2), none, none,
  some (.iload_n 1, 1, xN), some (.iaload, 1, xN), some (.bipush 7, 2, xI (7)), none, some (.invokevirtual 294, 3, xN), none, none, some (.invokevirtual 240, 3, xN),
  none, none, some (.aload_n 0, 1, xN), some (.iconst 4, 1, xI (4)), some (.invokevirtual 177, 3, xN), none, none, some (.lstore_n 2, 1, xN),
  some (.aload_n 0, 1, xN), some (.getfield 164, 3, xF 0 8 3), none, none, some (.ifCond .ne (18), 3, xJ 46), none, none, some (.lload_n 2, 1, xN),
  some (.aload_n 0, 1, xN), some (.getfield 170, 3, xF 0 7 0), none, none, some (.aload_n 0, 1, xN), some (.getfield 167, 3, xF 0 6 0), none, none,
  some (.isub, 1, xN), some (.i2l, 1, xN), some (.lcmp, 1, xN), some (.ifCond .le (5), 3, xJ 48), none, none, some (.iconst 0, 1, xI (0)), some (.ireturn, 1, xN),
  some (.aload_n 0, 1, xN), some (.aload_n 0, 1, xN), some (.getfield 167, 3, xF 0 6 0), none, none, some (.lload_n 2, 1, xN), some (.l2i, 1, xN), some (.iadd, 1, xN),
  some (.putfield 170, 3, xF 0 7 0), none, none, some (.aload_n 0, 1, xN), some (.iconst 2, 1, xI (2)), some (.invokevirtual 177, 3, xN), none, none,
  some (.ldc2_w 282, 3, xL (5)), none, none, some (.lcmp, 1, xN), some (.ifCond .ne (7), 3, xJ 75), none, none, some (.iconst 1, 1, xI (1)),
  some (.goto (4), 3, xJ 76), none, none, some (.iconst 0, 1, xI (0)), some (.istore 4, 2, xN), none, some (.aload_n 0, 1, xN), some (.iconst 1, 1, xI (1)),
  some (.invokevirtual 177, 3, xN), none, none, some (.ldc2_w 207, 3, xL (8)), none, none, some (.lcmp, 1, xN), some (.ifCond .ne (12), 3, xJ 99),
  none, none, some (.iload 4, 2, xN), none, some (.ifCond .eq (7), 3, xJ 99), none, none, some (.iconst 1, 1, xI (1)),
  some (.goto (4), 3, xJ 100), none, none, some (.iconst 0, 1, xI (0)), some (.istore 4, 2, xN), none, some (.aload_n 0, 1, xN), some (.iconst 1, 1, xI (1)),
  some (.invokevirtual 177, 3, xN), none, none, some (.lconst 0, 1, xL 0), some (.lcmp, 1, xN), some (.ifCond .ne (12), 3, xJ 121), none, none,
  some (.iload 4, 2, xN), none, some (.ifCond .eq (7), 3, xJ 121), none, none, some (.iconst 1, 1, xI (1)), some (.goto (4), 3, xJ 122), none,
  none, some (.iconst 0, 1, xI (0)), some (.istore 4, 2, xN), none, some (.aload_n 0, 1, xN), some (.iconst 4, 1, xI (4)), some (.invokevirtual 177, 3, xN), none,
  none, some (.lstore 5, 2, xN), none, some (.aload_n 0, 1, xN), some (.getfield 164, 3, xF 0 8 3), none, none, some (.ifCond .ne (24), 3, xJ 159),
  none, none, some (.iload 4, 2, xN), none, some (.ifCond .eq (19), 3, xJ 159), none, none, some (.lload 5, 2, xN),
  none, some (.aload_n 0, 1, xN), some (.getfield 170, 3, xF 0 7 0), none, none, some (.aload_n 0, 1, xN), some (.getfield 167, 3, xF 0 6 0), none,
  none, some (.isub, 1, xN), some (.i2l, 1, xN), some (.lcmp, 1, xN), some (.ifCond .le (5), 3, xJ 161), none, none, some (.iconst 0, 1, xI (0)),
  some (.ireturn, 1, xN), some (.aload_n 0, 1, xN), some (.getfield 167, 3, xF 0 6 0), none, none, some (.lload 5, 2, xN), none, some (.l2i, 1, xN),
  some (.iadd, 1, xN), some (.istore 7, 2, xN), none, some (.aload_n 0, 1, xN), some (.iconst 1, 1, xI (1)), some (.invokevirtual 177, 3, xN), none, none,
  some (.lconst 1, 1, xL 1), some (.lcmp, 1, xN), some (.ifCond .ne (7), 3, xJ 185), none, none, some (.iconst 1, 1, xI (1)), some (.goto (4), 3, xJ 186), none,
  none, some (.iconst 0, 1, xI (0)), some (.istore 4, 2, xN), none, some (.aload_n 0, 1, xN), some (.iconst 1, 1, xI (1)), some (.invokevirtual 177, 3, xN), none,
  none, some (.lconst 1, 1, xL 1), some (.lcmp, 1, xN), some (.ifCond .ne (12), 3, xJ 207), none, none, some (.iload 4, 2, xN), none,
  some (.ifCond .eq (7), 3, xJ 207), none, none, some (.iconst 1, 1, xI (1)), some (.goto (4), 3, xJ 208), none, none, some (.iconst 0, 1, xI (0)),
  some (.istore 4, 2, xN), none, some (.aload_n 0, 1, xN), some (.lconst 1, 1, xL 1), some (.invokevirtual 187, 3, xN), none, none, some (.aload_n 0, 1, xN),
  some (.aload_n 0, 1, xN), some (.iconst 1, 1, xI (1)), some (.invokevirtual 177, 3, xN), none, none, some (.l2i, 1, xN), some (.i2b, 1, xN), some (.putfield 400, 3, xF 0 52 0),
  none, none, some (.aload_n 0, 1, xN), some (.aload_n 0, 1, xN), some (.iconst 1, 1, xI (1)), some (.invokevirtual 177, 3, xN), none, none,
  some (.l2i, 1, xN), some (.putfield 397, 3, xF 0 53 0), none, none, some (.aload_n 0, 1, xN), some (.aload_n 0, 1, xN), some (.iconst 1, 1, xI (1)), some (.invokevirtual 177, 3, xN),
  none, none, some (.l2i, 1, xN), some (.putfield 394, 3, xF 0 50 0), none, none, some (.aload_n 0, 1, xN), some (.aload_n 0, 1, xN),
  some (.getfield 167, 3, xF 0 6 0), none, none, some (.putfield 406, 3, xF 0 51 0), none, none, some (.aload_n 0, 1, xN), some (.aload_n 0, 1, xN),
  some (.getfield 394, 3, xF 0 50 0), none, none, some (.i2l, 1, xN), some (.lconst 1, 1, xL 1), some (.lsub, 1, xN), some (.invokevirtual 187, 3, xN), none,
  none, some (.iload 4, 2, xN), none, some (.ifCond .eq (38), 3, xJ 305), none, none, some (.aload_n 0, 1, xN), some (.getfield 164, 3, xF 0 8 3),
  none, none, some (.ifCond .ne (31), 3, xJ 305), none, none, some (.aload_n 0, 1, xN), some (.getfield 397, 3, xF 0 53 0), none,
  none, some (.ifCond .le (24), 3, xJ 305), none, none, some (.aload_n 0, 1, xN), some (.getfield 394, 3, xF 0 50 0), none, none,
  some (.i2l, 1, xN), some (.ldc2_w 409, 3, xL (10)), none, none, some (.ldc2_w 411, 3, xL (200)), none, none, some (.invokestatic 201, 3, xN),
  none, none, some (.ifCond .eq (7), 3, xJ 305), none, none, some (.iconst 1, 1, xI (1)), some (.goto (4), 3, xJ 306), none,
  none, some (.iconst 0, 1, xI (0)), some (.istore 4, 2, xN), none, some (.iload 4, 2, xN), none, some (.ifCond .eq (34), 3, xJ 344), none,
  none, some (.aload_n 0, 1, xN), some (.iload_n 1, 1, xN), some (.iconst 0, 1, xI (0)), some (.invokevirtual 413, 3, xN), none, none, some (.ifCond .eq (25), 3, xJ 344),
  none, none, some (.aload_n 0, 1, xN), some (.iload_n 1, 1, xN), some (.iconst 1, 1, xI (1)), some (.invokevirtual 413, 3, xN), none, none,
  some (.ifCond .eq (16), 3, xJ 344), none, none, some (.aload_n 0, 1, xN), some (.getfield 167, 3, xF 0 6 0), none, none, some (.iload 7, 2, xN),
  none, some (.if_icmp .gt (7), 3, xJ 344), none, none, some (.iconst 1, 1, xI (1)), some (.goto (4), 3, xJ 345), none, none,
  some (.iconst 0, 1, xI (0)), some (.istore 4, 2, xN), none, some (.aload_n 0, 1, xN), some (.invokevirtual 389, 3, xN), none, none, some (.aload_n 0, 1, xN),
  some (.iload 7, 2, xN), none, some (.putfield 167, 3, xF 0 6 0), none, none, some (.iload 4, 2, xN), none, some (.ifCond .eq (33), 3, xJ 392),
  none, none, some (.aload_n 0, 1, xN), some (.getfield 167, 3, xF 0 6 0), none, none, some (.aload_n 0, 1, xN), some (.getfield 170, 3, xF 0 7 0),
  none, none, some (.if_icmp .ge (22), 3, xJ 392), none, none, some (.aload_n 0, 1, xN), some (.iconst 1, 1, xI (1)), some (.invokevirtual 177, 3, xN),
  none, none, some (.l2i, 1, xN), some (.istore 8, 2, xN), none, some (.aload_n 0, 1, xN), some (.iload 8, 2, xN), none,
  some (.invokevirtual 417, 3, xN), none, none, some (.istore 4, 2, xN), none, some (.goto (-32), 3, xJ 357), none, none,
  some (.iload 4, 2, xN), none, some (.ifCond .eq (14), 3, xJ 408), none, none, some (.aload_n 0, 1, xN), some (.getfield 164, 3, xF 0 8 3), none,
  none, some (.ifCond .ne (7), 3, xJ 408), none, none, some (.iconst 1, 1, xI (1)), some (.goto (4), 3, xJ 409), none, none,
  some (.iconst 0, 1, xI (0)), some (.ireturn, 1, xN)]
def M_Mo_readLines : am_Me := (⟨R_Mo, "readLines", "(I)Z"⟩, prog_14_method_56_code, 9, (some .boolean), Y_Mo, cd_Mo_readLines, 6, 149, 0, 0)
set_option maxRecDepth 100000 in
theorem ok_Mo_readLines : am_ok S_m M_Mo_readLines := am_ok_ofY (Y := Y_Mo) (cd := cd_Mo_readLines) (by decide +kernel) rfl rfl rfl oY_Mo (by decide +kernel)
def cd_Mo_readAllLines : List (Option am_I) := [some (.iconst 1, 1, xI (1)), some (.istore_n 1, 1, xN), some (.iconst 0, 1, xI (0)), some (.istore_n 2, 1, xN), some (.iload_n 2, 1, xN), some (.aload_n 0, 1, xN), some (.getfield 263, 3, xF 0 21 0), none,
  none, some (.if_icmp .ge (59), 3, xJ 68), none, none, some (.iload_n 1, 1, xN), some (.ifCond .eq (55), 3, xJ 68), none, none,
  some (.aload_n 0, 1, xN), some (.getfield 126, 3, xF 0 42 2), none, none, some (.iload_n 2, 1, xN), some (.aload_n 0, 1, xN), some (.getfield 368, 3, xF 0 38 0), none,
  none, some (.iastore, 1, xN), some (.aload_n 0, 1, xN), some (.getfield 117, 3, xF 0 39 2), none, none, some (.iload_n 2, 1, xN), some (.iconst 0, 1, xI (0)),
  some (.iastore, 1, xN), some (.aload_n 0, 1, xN), some (.aload_n 0, 1, xN), some (.getfield 84, 3, xF 0 25 2), none, none, some (.iload_n 2, 1, xN), some (.iaload, 1, xN),
  some (.bipush 7, 2, xI (7)), none, some (.invokevirtual 290, 3, xN), none, none, some (.ifCond .eq (11), 3, xJ 56), none, none,
  some (.aload_n 0, 1, xN), some (.iload_n 2, 1, xN), some (.invokevirtual 420, 3, xN), none, none, some (.ifCond .eq (7), 3, xJ 60), none, none,
  some (.iconst 1, 1, xI (1)), some (.goto (4), 3, xJ 61), none, none, some (.iconst 0, 1, xI (0)), some (.istore_n 1, 1, xN), some (.iinc 2 (1), 3, xI (1)), none,
  none, some (.goto (-61), 3, xJ 4), none, none, some (.aload_n 0, 1, xN), some (.getfield 126, 3, xF 0 42 2), none, none,
  some (.aload_n 0, 1, xN), some (.getfield 263, 3, xF 0 21 0), none, none, some (.aload_n 0, 1, xN), some (.getfield 368, 3, xF 0 38 0), none, none,
  some (.iastore, 1, xN), some (.iload_n 1, 1, xN), some (.ireturn, 1, xN)]
def M_Mo_readAllLines : am_Me := (⟨R_Mo, "readAllLines", "()Z"⟩, prog_14_method_57_code, 3, (some .boolean), Y_Mo, cd_Mo_readAllLines, 7, 177, 0, 0)
set_option maxRecDepth 100000 in
theorem ok_Mo_readAllLines : am_ok S_m M_Mo_readAllLines := am_ok_ofY (Y := Y_Mo) (cd := cd_Mo_readAllLines) (by decide +kernel) rfl rfl rfl oY_Mo (by decide +kernel)
def cd_Mo_readSymbols : List (Option am_I) := [some (.aload_n 0, 1, xN), some (.aload_n 0, 1, xN), some (.getfield 53, 3, xF 0 11 2), none, none, some (.bipush 8, 2, xI (8)), none, some (.iaload, 1, xN),
  some (.bipush 24, 2, xI (24)), none, some (.idiv, 1, xN), some (.putfield 423, 3, xF 0 54 0), none, none, some (.aload_n 0, 1, xN), some (.getfield 53, 3, xF 0 11 2),
  none, none, some (.bipush 8, 2, xI (8)), none, some (.iaload, 1, xN), some (.bipush 24, 2, xI (24)), none, some (.irem, 1, xN),
  some (.ifCond .ne (16), 3, xJ 40), none, none, some (.aload_n 0, 1, xN), some (.getfield 423, 3, xF 0 54 0), none, none, some (.bipush 60, 2, xI (60)),
  none, some (.if_icmp .gt (7), 3, xJ 40), none, none, some (.iconst 1, 1, xI (1)), some (.goto (4), 3, xJ 41), none, none,
  some (.iconst 0, 1, xI (0)), some (.istore_n 1, 1, xN), some (.iconst 0, 1, xI (0)), some (.istore_n 2, 1, xN), some (.iload_n 2, 1, xN), some (.aload_n 0, 1, xN), some (.getfield 423, 3, xF 0 54 0), none,
  none, some (.if_icmp .ge (46), 3, xJ 95), none, none, some (.iload_n 1, 1, xN), some (.ifCond .eq (42), 3, xJ 95), none, none,
  some (.aload_n 0, 1, xN), some (.bipush 9, 2, xI (9)), none, some (.aload_n 0, 1, xN), some (.aload_n 0, 1, xN), some (.getfield 49, 3, xF 0 10 2), none, none,
  some (.bipush 8, 2, xI (8)), none, some (.iaload, 1, xN), some (.bipush 24, 2, xI (24)), none, some (.iload_n 2, 1, xN), some (.imul, 1, xN), some (.iadd, 1, xN),
  some (.iconst 4, 1, xI (4)), some (.invokevirtual 173, 3, xN), none, none, some (.invokevirtual 302, 3, xN), none, none, some (.iconst (-1), 1, xI (-1)),
  some (.if_icmp .eq (7), 3, xJ 87), none, none, some (.iconst 1, 1, xI (1)), some (.goto (4), 3, xJ 88), none, none, some (.iconst 0, 1, xI (0)),
  some (.istore_n 1, 1, xN), some (.iinc 2 (1), 3, xI (1)), none, none, some (.goto (-48), 3, xJ 44), none, none, some (.iload_n 1, 1, xN),
  some (.ireturn, 1, xN)]
def M_Mo_readSymbols : am_Me := (⟨R_Mo, "readSymbols", "()Z"⟩, prog_14_method_58_code, 3, (some .boolean), Y_Mo, cd_Mo_readSymbols, 2, 48, 0, 0)
set_option maxRecDepth 100000 in
theorem ok_Mo_readSymbols : am_ok S_m M_Mo_readSymbols := am_ok_ofY (Y := Y_Mo) (cd := cd_Mo_readSymbols) (by decide +kernel) rfl rfl rfl oY_Mo (by decide +kernel)
def cd_Mo_open : List (Option am_I) := [some (.aload_n 0, 1, xN), some (.invokevirtual 151, 3, xN), none, none, some (.aload_n 0, 1, xN), some (.iconst 0, 1, xI (0)), some (.putfield 213, 3, xF 0 9 0), none,
  none, some (.aload_n 0, 1, xN), some (.iconst 0, 1, xI (0)), some (.putfield 263, 3, xF 0 21 0), none, none, some (.aload_n 0, 1, xN), some (.iconst 0, 1, xI (0)),
  some (.putfield 257, 3, xF 0 22 0), none, none, some (.aload_n 0, 1, xN), some (.iconst 0, 1, xI (0)), some (.putfield 340, 3, xF 0 33 0), none, none,
  some (.aload_n 0, 1, xN), some (.iconst 0, 1, xI (0)), some (.putfield 368, 3, xF 0 38 0), none, none, some (.aload_n 0, 1, xN), some (.aload_n 0, 1, xN), some (.invokevirtual 426, 3, xN),
  none, none, some (.ifCond .ne (7), 3, xJ 41), none, none, some (.iconst 1, 1, xI (1)), some (.goto (48), 3, xJ 86), none,
  none, some (.aload_n 0, 1, xN), some (.invokevirtual 429, 3, xN), none, none, some (.ifCond .ne (7), 3, xJ 52), none, none,
  some (.iconst 2, 1, xI (2)), some (.goto (37), 3, xJ 86), none, none, some (.aload_n 0, 1, xN), some (.invokevirtual 432, 3, xN), none, none,
  some (.ifCond .ne (7), 3, xJ 63), none, none, some (.iconst 3, 1, xI (3)), some (.goto (26), 3, xJ 86), none, none, some (.aload_n 0, 1, xN),
  some (.invokevirtual 435, 3, xN), none, none, some (.ifCond .ne (7), 3, xJ 74), none, none, some (.iconst 4, 1, xI (4)), some (.goto (15), 3, xJ 86),
  none, none, some (.aload_n 0, 1, xN), some (.invokevirtual 438, 3, xN), none, none, some (.ifCond .ne (7), 3, xJ 85), none,
  none, some (.iconst 5, 1, xI (5)), some (.goto (4), 3, xJ 86), none, none, some (.iconst 0, 1, xI (0)), some (.putfield 441, 3, xF 0 4 0), none,
  none, some (.aload_n 0, 1, xN), some (.aload_n 0, 1, xN), some (.getfield 441, 3, xF 0 4 0), none, none, some (.ifCond .ne (7), 3, xJ 101), none,
  none, some (.iconst 1, 1, xI (1)), some (.goto (4), 3, xJ 102), none, none, some (.iconst 0, 1, xI (0)), some (.putfield 154, 3, xF 0 5 3), none,
  none, some (.aload_n 0, 1, xN), some (.aload_n 0, 1, xN), some (.getfield 154, 3, xF 0 5 3), none, none, some (.ifCond .eq (7), 3, xJ 117), none,
  none, some (.iconst 0, 1, xI (0)), some (.goto (4), 3, xJ 118), none, none, some (.iconst 1, 1, xI (1)), some (.putfield 144, 3, xF 0 1 0), none,
  none, some (.aload_n 0, 1, xN), some (.getfield 154, 3, xF 0 5 3), none, none, some (.ifCond .eq (10), 3, xJ 135), none, none,
  some (.aload_n 0, 1, xN), some (.getfield 257, 3, xF 0 22 0), none, none, some (.goto (4), 3, xJ 136), none, none, some (.iconst 0, 1, xI (0)),
  some (.ireturn, 1, xN)]
def M_Mo_open : am_Me := (⟨R_Mo, "open", "()I"⟩, prog_14_method_59_code, 1, (some .int), Y_Mo, cd_Mo_open, 8, 204, 0, 0)
set_option maxRecDepth 100000 in
theorem ok_Mo_open : am_ok S_m M_Mo_open := am_ok_ofY (Y := Y_Mo) (cd := cd_Mo_open) (by decide +kernel) rfl rfl rfl oY_Mo (by decide +kernel)
def cd_Mo_fault : List (Option am_I) := [some (.aload_n 0, 1, xN), some (.iconst 0, 1, xI (0)), some (.putfield 144, 3, xF 0 1 0), none, none, some (.aload_n 0, 1, xN), some (.getfield 441, 3, xF 0 4 0), none,
  none, some (.ireturn, 1, xN)]
def M_Mo_fault : am_Me := (⟨R_Mo, "fault", "()I"⟩, prog_14_method_60_code, 1, (some .int), Y_Mo, cd_Mo_fault, 0, 0, 0, 0)
set_option maxRecDepth 100000 in
theorem ok_Mo_fault : am_ok S_m M_Mo_fault := am_ok_ofY (Y := Y_Mo) (cd := cd_Mo_fault) (by decide +kernel) rfl rfl rfl oY_Mo (by decide +kernel)
def cd_Mo_count : List (Option am_I) := [some (.aload_n 0, 1, xN), some (.iconst 0, 1, xI (0)), some (.putfield 144, 3, xF 0 1 0), none, none, some (.aload_n 0, 1, xN), some (.getfield 154, 3, xF 0 5 3), none,
  none, some (.ifCond .ne (5), 3, xJ 14), none, none, some (.iconst (-1), 1, xI (-1)), some (.ireturn, 1, xN), some (.iload_n 1, 1, xN), some (.tableswitch (67) (0) (5) #[37, 42, 47, 52, 57, 62], 37, xN),
  none, none, none, none, none, none, none, none,
  none, none, none, none, none, none, none, none,
  none, none, none, none, none, none, none, none,
  none, none, none, none, none, none, none, none,
  none, none, none, none, some (.aload_n 0, 1, xN), some (.getfield 213, 3, xF 0 9 0), none, none,
  some (.ireturn, 1, xN), some (.aload_n 0, 1, xN), some (.getfield 263, 3, xF 0 21 0), none, none, some (.ireturn, 1, xN), some (.aload_n 0, 1, xN), some (.getfield 257, 3, xF 0 22 0),
  none, none, some (.ireturn, 1, xN), some (.aload_n 0, 1, xN), some (.getfield 340, 3, xF 0 33 0), none, none, some (.ireturn, 1, xN),
  some (.aload_n 0, 1, xN), some (.getfield 368, 3, xF 0 38 0), none, none, some (.ireturn, 1, xN), some (.aload_n 0, 1, xN), some (.getfield 423, 3, xF 0 54 0), none,
  none, some (.ireturn, 1, xN), some (.iconst (-1), 1, xI (-1)), some (.ireturn, 1, xN)]
def M_Mo_count : am_Me := (⟨R_Mo, "count", "(I)I"⟩, prog_14_method_61_code, 2, (some .int), Y_Mo, cd_Mo_count, 0, 0, 0, 0)
set_option maxRecDepth 100000 in
theorem ok_Mo_count : am_ok S_m M_Mo_count := am_ok_ofY (Y := Y_Mo) (cd := cd_Mo_count) (by decide +kernel) rfl rfl rfl oY_Mo (by decide +kernel)
def cd_Mo_isLess : List (Option am_I) := [some (.lload_n 0, 1, xN), some (.ldc2_w 444, 3, xL (-9223372036854775808)), none, none, some (.ladd, 1, xN), some (.lload_n 2, 1, xN), some (.ldc2_w 444, 3, xL (-9223372036854775808)), none,
  none, some (.ladd, 1, xN), some (.lcmp, 1, xN), some (.ifCond .ge (7), 3, xJ 18), none, none, some (.iconst 1, 1, xI (1)), some (.goto (4), 3, xJ 19),
  none, none, some (.iconst 0, 1, xI (0)), some (.ireturn, 1, xN)]
def M_Mo_isLess : am_Me := (⟨R_Mo, "isLess", "(JJ)Z"⟩, prog_14_method_62_code, 4, (some .boolean), Y_Mo, cd_Mo_isLess, 0, 0, 0, 0)
set_option maxRecDepth 100000 in
theorem ok_Mo_isLess : am_ok S_m M_Mo_isLess := am_ok_ofY (Y := Y_Mo) (cd := cd_Mo_isLess) (by decide +kernel) rfl rfl rfl oY_Mo (by decide +kernel)
def cd_Mo_isWithin : List (Option am_I) := [some (.lload_n 0, 1, xN), some (.lload_n 2, 1, xN), some (.invokestatic 446, 3, xN), none, none, some (.ifCond .ne (16), 3, xJ 21), none, none,
  some (.lload_n 0, 1, xN), some (.lload 4, 2, xN), none, some (.invokestatic 446, 3, xN), none, none, some (.ifCond .eq (7), 3, xJ 21), none,
  none, some (.iconst 1, 1, xI (1)), some (.goto (4), 3, xJ 22), none, none, some (.iconst 0, 1, xI (0)), some (.ireturn, 1, xN)]
def M_Mo_isWithin : am_Me := (⟨R_Mo, "isWithin", "(JJJ)Z"⟩, prog_14_method_63_code, 6, (some .boolean), Y_Mo, cd_Mo_isWithin, 1, 23, 0, 0)
set_option maxRecDepth 100000 in
theorem ok_Mo_isWithin : am_ok S_m M_Mo_isWithin := am_ok_ofY (Y := Y_Mo) (cd := cd_Mo_isWithin) (by decide +kernel) rfl rfl rfl oY_Mo (by decide +kernel)
def cd_Mo_holds : List (Option am_I) := [some (.iconst 0, 1, xI (0)), some (.istore_n 2, 1, xN), some (.aload_n 0, 1, xN), some (.getfield 108, 3, xF 0 34 2), none, none, some (.iload_n 1, 1, xN), some (.iaload, 1, xN),
  some (.istore_n 3, 1, xN), some (.iload_n 3, 1, xN), some (.aload_n 0, 1, xN), some (.getfield 108, 3, xF 0 34 2), none, none, some (.iload_n 1, 1, xN), some (.iconst 1, 1, xI (1)),
  some (.iadd, 1, xN), some (.iaload, 1, xN), some (.if_icmp .ge (41), 3, xJ 59), none, none, some (.iload_n 2, 1, xN), some (.ifCond .ne (25), 3, xJ 47), none,
  none, some (.aload_n 0, 1, xN), some (.getfield 449, 3, xF 0 59 1), none, none, some (.aload_n 0, 1, xN), some (.getfield 111, 3, xF 0 35 2), none,
  none, some (.iload_n 3, 1, xN), some (.laload, 1, xN), some (.aload_n 0, 1, xN), some (.getfield 114, 3, xF 0 36 2), none, none, some (.iload_n 3, 1, xN),
  some (.laload, 1, xN), some (.invokestatic 452, 3, xN), none, none, some (.ifCond .eq (7), 3, xJ 51), none, none, some (.iconst 1, 1, xI (1)),
  some (.goto (4), 3, xJ 52), none, none, some (.iconst 0, 1, xI (0)), some (.istore_n 2, 1, xN), some (.iinc 3 (1), 3, xI (1)), none, none,
  some (.goto (-47), 3, xJ 9), none, none, some (.iload_n 2, 1, xN), some (.ireturn, 1, xN)]
def M_Mo_holds : am_Me := (⟨R_Mo, "holds", "(I)Z"⟩, prog_14_method_64_code, 4, (some .boolean), Y_Mo, cd_Mo_holds, 2, 48, 0, 0)
set_option maxRecDepth 100000 in
theorem ok_Mo_holds : am_ok S_m M_Mo_holds := am_ok_ofY (Y := Y_Mo) (cd := cd_Mo_holds) (by decide +kernel) rfl rfl rfl oY_Mo (by decide +kernel)
def cd_Mo_letsPass : List (Option am_I) := [some (.aload_n 0, 1, xN), some (.iload_n 1, 1, xN), some (.invokevirtual 455, 3, xN), none, none, some (.ifCond .ne (30), 3, xJ 35), none, none,
  some (.aload_n 0, 1, xN), some (.iload_n 1, 1, xN), some (.iconst 3, 1, xI (3)), some (.invokevirtual 290, 3, xN), none, none, some (.ifCond .ne (25), 3, xJ 39), none,
  none, some (.aload_n 0, 1, xN), some (.iload_n 1, 1, xN), some (.iconst 1, 1, xI (1)), some (.invokevirtual 290, 3, xN), none, none, some (.ifCond .eq (12), 3, xJ 35),
  none, none, some (.aload_n 0, 1, xN), some (.iload_n 1, 1, xN), some (.iconst 2, 1, xI (2)), some (.invokevirtual 290, 3, xN), none, none,
  some (.ifCond .ne (7), 3, xJ 39), none, none, some (.iconst 1, 1, xI (1)), some (.goto (4), 3, xJ 40), none, none, some (.iconst 0, 1, xI (0)),
  some (.ireturn, 1, xN)]
def M_Mo_letsPass : am_Me := (⟨R_Mo, "letsPass", "(I)Z"⟩, prog_14_method_65_code, 2, (some .boolean), Y_Mo, cd_Mo_letsPass, 3, 71, 0, 0)
set_option maxRecDepth 100000 in
theorem ok_Mo_letsPass : am_ok S_m M_Mo_letsPass := am_ok_ofY (Y := Y_Mo) (cd := cd_Mo_letsPass) (by decide +kernel) rfl rfl rfl oY_Mo (by decide +kernel)
def cd_Mo_isUnder : List (Option am_I) := [some (.aload_n 0, 1, xN), some (.getfield 96, 3, xF 0 29 2), none, none, some (.iload_n 1, 1, xN), some (.iaload, 1, xN), some (.istore_n 3, 1, xN), some (.iload_n 3, 1, xN),
  some (.iload_n 2, 1, xN), some (.if_icmp .eq (37), 3, xJ 46), none, none, some (.iload_n 3, 1, xN), some (.iconst (-1), 1, xI (-1)), some (.if_icmp .eq (32), 3, xJ 46), none,
  none, some (.aload_n 0, 1, xN), some (.getfield 93, 3, xF 0 28 2), none, none, some (.iload_n 3, 1, xN), some (.iaload, 1, xN), some (.bipush 11, 2, xI (11)),
  none, some (.if_icmp .ne (21), 3, xJ 46), none, none, some (.aload_n 0, 1, xN), some (.iload_n 3, 1, xN), some (.invokevirtual 458, 3, xN), none,
  none, some (.ifCond .eq (13), 3, xJ 46), none, none, some (.aload_n 0, 1, xN), some (.getfield 96, 3, xF 0 29 2), none, none,
  some (.iload_n 3, 1, xN), some (.iaload, 1, xN), some (.istore_n 3, 1, xN), some (.goto (-36), 3, xJ 7), none, none, some (.iload_n 3, 1, xN), some (.iload_n 2, 1, xN),
  some (.if_icmp .ne (7), 3, xJ 55), none, none, some (.iconst 1, 1, xI (1)), some (.goto (4), 3, xJ 56), none, none, some (.iconst 0, 1, xI (0)),
  some (.ireturn, 1, xN)]
def M_Mo_isUnder : am_Me := (⟨R_Mo, "isUnder", "(II)Z"⟩, prog_14_method_66_code, 4, (some .boolean), Y_Mo, cd_Mo_isUnder, 4, 92, 0, 0)
set_option maxRecDepth 100000 in
theorem ok_Mo_isUnder : am_ok S_m M_Mo_isUnder := am_ok_ofY (Y := Y_Mo) (cd := cd_Mo_isUnder) (by decide +kernel) rfl rfl rfl oY_Mo (by decide +kernel)
def cd_Mo_first : List (Option am_I) := [some (.iconst 0, 1, xI (0)), some (.istore_n 3, 1, xN), some (.iload_n 3, 1, xN), some (.aload_n 0, 1, xN), some (.getfield 257, 3, xF 0 22 0), none, none, some (.if_icmp .ge (43), 3, xJ 50),
  none, none, some (.aload_n 0, 1, xN), some (.getfield 93, 3, xF 0 28 2), none, none, some (.iload_n 3, 1, xN), some (.iaload, 1, xN),
  some (.iload_n 1, 1, xN), some (.if_icmp .ne (27), 3, xJ 44), none, none, some (.aload_n 0, 1, xN), some (.iload_n 3, 1, xN), some (.invokevirtual 455, 3, xN), none,
  none, some (.ifCond .eq (19), 3, xJ 44), none, none, some (.iload_n 2, 1, xN), some (.iconst (-1), 1, xI (-1)), some (.if_icmp .eq (12), 3, xJ 42), none,
  none, some (.aload_n 0, 1, xN), some (.iload_n 3, 1, xN), some (.iload_n 2, 1, xN), some (.invokevirtual 461, 3, xN), none, none, some (.ifCond .eq (5), 3, xJ 44),
  none, none, some (.iload_n 3, 1, xN), some (.ireturn, 1, xN), some (.iinc 3 (1), 3, xI (1)), none, none, some (.goto (-45), 3, xJ 2),
  none, none, some (.iconst (-1), 1, xI (-1)), some (.ireturn, 1, xN)]
def M_Mo_first : am_Me := (⟨R_Mo, "first", "(II)I"⟩, prog_14_method_67_code, 4, (some .int), Y_Mo, cd_Mo_first, 5, 115, 0, 0)
set_option maxRecDepth 100000 in
theorem ok_Mo_first : am_ok S_m M_Mo_first := am_ok_ofY (Y := Y_Mo) (cd := cd_Mo_first) (by decide +kernel) rfl rfl rfl oY_Mo (by decide +kernel)
def cd_Mo_symbol : List (Option am_I) := [some (.iconst 0, 1, xI (0)), some (.istore_n 1, 1, xN), some (.iload_n 1, 1, xN), some (.aload_n 0, 1, xN), some (.getfield 423, 3, xF 0 54 0), none, none, some (.if_icmp .ge (73), 3, xJ 80),
  none, none, some (.aload_n 0, 1, xN), some (.getfield 49, 3, xF 0 10 2), none, none, some (.bipush 8, 2, xI (8)), none,
  some (.iaload, 1, xN), some (.bipush 24, 2, xI (24)), none, some (.iload_n 1, 1, xN), some (.imul, 1, xN), some (.iadd, 1, xN), some (.istore_n 2, 1, xN), some (.aload_n 0, 1, xN),
  some (.iload_n 2, 1, xN), some (.bipush 8, 2, xI (8)), none, some (.iadd, 1, xN), some (.bipush 8, 2, xI (8)), none, some (.invokevirtual 173, 3, xN), none,
  none, some (.lstore_n 3, 1, xN), some (.aload_n 0, 1, xN), some (.getfield 45, 3, xF 0 2 2), none, none, some (.iload_n 2, 1, xN), some (.iconst 4, 1, xI (4)),
  some (.iadd, 1, xN), some (.baload, 1, xJ 2), some (.bipush 15, 2, xI (15)), none, some (.iand, 1, xN), some (.iconst 2, 1, xI (2)), some (.if_icmp .ne (28), 3, xJ 74), none,
  none, some (.aload_n 0, 1, xN), some (.getfield 449, 3, xF 0 59 1), none, none, some (.lload_n 3, 1, xN), some (.lload_n 3, 1, xN), some (.aload_n 0, 1, xN),
  some (.iload_n 2, 1, xN), some (.bipush 16, 2, xI (16)), none, some (.iadd, 1, xN), some (.bipush 8, 2, xI (8)), none, some (.invokevirtual 173, 3, xN), none,
  none, some (.ladd, 1, xN), some (.invokestatic 452, 3, xN), none, none, some (.ifCond .eq (5), 3, xJ 74), none, none,
  some (.iload_n 1, 1, xN), some (.ireturn, 1, xN), some (.iinc 1 (1), 3, xI (1)), none, none, some (.goto (-75), 3, xJ 2), none, none,
  some (.iconst (-1), 1, xI (-1)), some (.ireturn, 1, xN)]
def M_Mo_symbol : am_Me := (⟨R_Mo, "symbol", "()I"⟩, prog_14_method_68_code, 5, (some .int), Y_Mo, cd_Mo_symbol, 2, 48, 0, 0)
set_option maxRecDepth 100000 in
theorem ok_Mo_symbol : am_ok S_m M_Mo_symbol := am_ok_ofY (Y := Y_Mo) (cd := cd_Mo_symbol) (by decide +kernel) rfl rfl rfl oY_Mo (by decide +kernel)
def cd_Mo_find : List (Option am_I) := [some (.aload_n 0, 1, xN), some (.aload_n 0, 1, xN), some (.getfield 154, 3, xF 0 5 3), none, none, some (.ifCond .eq (7), 3, xJ 12), none, none,
  some (.iconst 0, 1, xI (0)), some (.goto (4), 3, xJ 13), none, none, some (.iconst 1, 1, xI (1)), some (.putfield 144, 3, xF 0 1 0), none, none,
  some (.aload_n 0, 1, xN), some (.getfield 154, 3, xF 0 5 3), none, none, some (.ifCond .ne (5), 3, xJ 25), none, none, some (.iconst 0, 1, xI (0)),
  some (.ireturn, 1, xN), some (.aload_n 0, 1, xN), some (.lload_n 1, 1, xN), some (.putfield 449, 3, xF 0 59 1), none, none, some (.aload_n 0, 1, xN), some (.iconst 0, 1, xI (0)),
  some (.putfield 161, 3, xF 0 55 0), none, none, some (.aload_n 0, 1, xN), some (.bipush 46, 2, xI (46)), none, some (.iconst (-1), 1, xI (-1)), some (.invokevirtual 464, 3, xN),
  none, none, some (.istore_n 3, 1, xN), some (.iload_n 3, 1, xN), some (.iconst (-1), 1, xI (-1)), some (.if_icmp .eq (34), 3, xJ 79), none, none,
  some (.aload_n 0, 1, xN), some (.getfield 141, 3, xF 0 58 2), none, none, some (.aload_n 0, 1, xN), some (.getfield 161, 3, xF 0 55 0), none, none,
  some (.iload_n 3, 1, xN), some (.iastore, 1, xN), some (.aload_n 0, 1, xN), some (.dup, 1, xN), some (.getfield 161, 3, xF 0 55 0), none, none, some (.iconst 1, 1, xI (1)),
  some (.iadd, 1, xN), some (.putfield 161, 3, xF 0 55 0), none, none, some (.aload_n 0, 1, xN), some (.bipush 29, 2, xI (29)), none, some (.iload_n 3, 1, xN),
  some (.invokevirtual 464, 3, xN), none, none, some (.istore_n 3, 1, xN), some (.goto (-33), 3, xJ 43), none, none, some (.aload_n 0, 1, xN),
  some (.aload_n 0, 1, xN), some (.getfield 161, 3, xF 0 55 0), none, none, some (.putfield 158, 3, xF 0 56 0), none, none, some (.aload_n 0, 1, xN),
  some (.getfield 161, 3, xF 0 55 0), none, none, some (.ifCond .ne (10), 3, xJ 101), none, none, some (.aload_n 0, 1, xN), some (.invokevirtual 467, 3, xN),
  none, none, some (.goto (4), 3, xJ 102), none, none, some (.iconst (-1), 1, xI (-1)), some (.istore 4, 2, xN), none,
  some (.iload 4, 2, xN), none, some (.iconst (-1), 1, xI (-1)), some (.if_icmp .eq (36), 3, xJ 143), none, none, some (.aload_n 0, 1, xN), some (.aload_n 0, 1, xN),
  some (.bipush 9, 2, xI (9)), none, some (.aload_n 0, 1, xN), some (.aload_n 0, 1, xN), some (.getfield 49, 3, xF 0 10 2), none, none, some (.bipush 8, 2, xI (8)),
  none, some (.iaload, 1, xN), some (.bipush 24, 2, xI (24)), none, some (.iload 4, 2, xN), none, some (.imul, 1, xN), some (.iadd, 1, xN),
  some (.iconst 4, 1, xI (4)), some (.invokevirtual 173, 3, xN), none, none, some (.invokevirtual 302, 3, xN), none, none, some (.putfield 470, 3, xF 0 57 0),
  none, none, some (.aload_n 0, 1, xN), some (.iconst 1, 1, xI (1)), some (.putfield 158, 3, xF 0 56 0), none, none, some (.aload_n 0, 1, xN),
  some (.getfield 158, 3, xF 0 56 0), none, none, some (.ireturn, 1, xN)]
def M_Mo_find : am_Me := (⟨R_Mo, "find", "(J)I"⟩, prog_14_method_69_code, 5, (some .int), Y_Mo, cd_Mo_find, 6, 138, 0, 0)
set_option maxRecDepth 100000 in
theorem ok_Mo_find : am_ok S_m M_Mo_find := am_ok_ofY (Y := Y_Mo) (cd := cd_Mo_find) (by decide +kernel) rfl rfl rfl oY_Mo (by decide +kernel)
def cd_Mo_isFrame : List (Option am_I) := [some (.iload_n 1, 1, xN), some (.ifCond .lt (15), 3, xJ 16), none, none, some (.iload_n 1, 1, xN), some (.aload_n 0, 1, xN), some (.getfield 158, 3, xF 0 56 0), none,
  none, some (.if_icmp .ge (7), 3, xJ 16), none, none, some (.iconst 1, 1, xI (1)), some (.goto (4), 3, xJ 17), none, none,
  some (.iconst 0, 1, xI (0)), some (.ireturn, 1, xN)]
def M_Mo_isFrame : am_Me := (⟨R_Mo, "isFrame", "(I)Z"⟩, prog_14_method_70_code, 2, (some .boolean), Y_Mo, cd_Mo_isFrame, 0, 0, 0, 0)
set_option maxRecDepth 100000 in
theorem ok_Mo_isFrame : am_ok S_m M_Mo_isFrame := am_ok_ofY (Y := Y_Mo) (cd := cd_Mo_isFrame) (by decide +kernel) rfl rfl rfl oY_Mo (by decide +kernel)
def cd_Mo_nameOf : List (Option am_I) := [some (.aload_n 0, 1, xN), some (.getfield 161, 3, xF 0 55 0), none, none, some (.ifCond .ne (8), 3, xJ 12), none, none, some (.aload_n 0, 1, xN),
  some (.getfield 470, 3, xF 0 57 0), none, none, some (.ireturn, 1, xN), some (.aload_n 0, 1, xN), some (.getfield 141, 3, xF 0 58 2), none, none,
  some (.aload_n 0, 1, xN), some (.getfield 161, 3, xF 0 55 0), none, none, some (.iconst 1, 1, xI (1)), some (.isub, 1, xN), some (.iload_n 1, 1, xN), some (.isub, 1, xN),
  some (.iaload, 1, xN), some (.istore_n 2, 1, xN), some (.iconst 0, 1, xI (0)), some (.istore_n 3, 1, xN), some (.iload_n 3, 1, xN), some (.bipush 8, 2, xI (8)), none, some (.if_icmp .ge (29), 3, xJ 60),
  none, none, some (.iload_n 2, 1, xN), some (.iconst (-1), 1, xI (-1)), some (.if_icmp .eq (24), 3, xJ 60), none, none, some (.aload_n 0, 1, xN),
  some (.iload_n 2, 1, xN), some (.iconst 0, 1, xI (0)), some (.invokevirtual 290, 3, xN), none, none, some (.ifCond .ne (15), 3, xJ 60), none, none,
  some (.aload_n 0, 1, xN), some (.iload_n 2, 1, xN), some (.invokevirtual 321, 3, xN), none, none, some (.istore_n 2, 1, xN), some (.iinc 3 (1), 3, xI (1)), none,
  none, some (.goto (-29), 3, xJ 28), none, none, some (.iload_n 2, 1, xN), some (.iconst (-1), 1, xI (-1)), some (.if_icmp .eq (20), 3, xJ 82), none,
  none, some (.aload_n 0, 1, xN), some (.iload_n 2, 1, xN), some (.iconst 0, 1, xI (0)), some (.invokevirtual 290, 3, xN), none, none, some (.ifCond .eq (11), 3, xJ 82),
  none, none, some (.aload_n 0, 1, xN), some (.iload_n 2, 1, xN), some (.invokevirtual 325, 3, xN), none, none, some (.goto (4), 3, xJ 83),
  none, none, some (.iconst (-1), 1, xI (-1)), some (.ireturn, 1, xN)]
def M_Mo_nameOf : am_Me := (⟨R_Mo, "nameOf", "(I)I"⟩, prog_14_method_71_code, 4, (some .int), Y_Mo, cd_Mo_nameOf, 3, 75, 0, 0)
set_option maxRecDepth 100000 in
theorem ok_Mo_nameOf : am_ok S_m M_Mo_nameOf := am_ok_ofY (Y := Y_Mo) (cd := cd_Mo_nameOf) (by decide +kernel) rfl rfl rfl oY_Mo (by decide +kernel)
def cd_Mo_character : List (Option am_I) := [some (.iload_n 1, 1, xN), some (.iconst (-1), 1, xI (-1)), some (.if_icmp .eq (7), 3, xJ 9), none, none, some (.iload_n 2, 1, xN), some (.ifCond .ge (5), 3, xJ 11), none,
  none, some (.iconst (-1), 1, xI (-1)), some (.ireturn, 1, xN), some (.iconst 0, 1, xI (0)), some (.istore_n 3, 1, xN), some (.iload_n 3, 1, xN), some (.iload_n 2, 1, xN), some (.if_icmp .gt (22), 3, xJ 37),
  none, none, some (.aload_n 0, 1, xN), some (.getfield 45, 3, xF 0 2 2), none, none, some (.iload_n 1, 1, xN), some (.iload_n 3, 1, xN),
  some (.iadd, 1, xN), some (.baload, 1, xJ 2), some (.ifCond .ne (5), 3, xJ 31), none, none, some (.iconst (-1), 1, xI (-1)), some (.ireturn, 1, xN), some (.iinc 3 (1), 3, xI (1)),
  none, none, some (.goto (-21), 3, xJ 13), none, none, some (.aload_n 0, 1, xN), some (.getfield 45, 3, xF 0 2 2), none,
  none, some (.iload_n 1, 1, xN), some (.iload_n 2, 1, xN), some (.iadd, 1, xN), some (.baload, 1, xJ 2), some (.sipush 255, 3, xI (255)), none, none,
  some (.iand, 1, xN), some (.ireturn, 1, xN)]
def M_Mo_character : am_Me := (⟨R_Mo, "character", "(II)I"⟩, prog_14_method_72_code, 4, (some .int), Y_Mo, cd_Mo_character, 0, 0, 0, 0)
set_option maxRecDepth 100000 in
theorem ok_Mo_character : am_ok S_m M_Mo_character := am_ok_ofY (Y := Y_Mo) (cd := cd_Mo_character) (by decide +kernel) rfl rfl rfl oY_Mo (by decide +kernel)
def cd_Mo_name : List (Option am_I) := [some (.aload_n 0, 1, xN), some (.iconst 0, 1, xI (0)), some (.putfield 144, 3, xF 0 1 0), none, none, some (.aload_n 0, 1, xN), some (.iload_n 1, 1, xN), some (.invokevirtual 473, 3, xN),
  none, none, some (.ifCond .eq (16), 3, xJ 26), none, none, some (.aload_n 0, 1, xN), some (.aload_n 0, 1, xN), some (.iload_n 1, 1, xN),
  some (.invokevirtual 476, 3, xN), none, none, some (.iload_n 2, 1, xN), some (.invokevirtual 479, 3, xN), none, none, some (.goto (4), 3, xJ 27),
  none, none, some (.iconst (-1), 1, xI (-1)), some (.ireturn, 1, xN)]
def M_Mo_name : am_Me := (⟨R_Mo, "name", "(II)I"⟩, prog_14_method_73_code, 3, (some .int), Y_Mo, cd_Mo_name, 4, 98, 0, 0)
set_option maxRecDepth 100000 in
theorem ok_Mo_name : am_ok S_m M_Mo_name := am_ok_ofY (Y := Y_Mo) (cd := cd_Mo_name) (by decide +kernel) rfl rfl rfl oY_Mo (by decide +kernel)
def cd_Mo_rowOf : List (Option am_I) := [some (.aload_n 0, 1, xN), some (.getfield 126, 3, xF 0 42 2), none, none, some (.iload_n 1, 1, xN), some (.iaload, 1, xN), some (.istore_n 2, 1, xN), some (.iload_n 2, 1, xN),
  some (.istore_n 3, 1, xN), some (.iload_n 3, 1, xN), some (.aload_n 0, 1, xN), some (.getfield 126, 3, xF 0 42 2), none, none, some (.iload_n 1, 1, xN), some (.iconst 1, 1, xI (1)),
  some (.iadd, 1, xN), some (.iaload, 1, xN), some (.if_icmp .ge (104), 3, xJ 122), none, none, some (.aload_n 0, 1, xN), some (.getfield 138, 3, xF 0 46 2), none,
  none, some (.iload_n 3, 1, xN), some (.baload, 1, xJ 3), some (.ifCond .eq (72), 3, xJ 99), none, none, some (.aload_n 0, 1, xN), some (.getfield 449, 3, xF 0 59 1),
  none, none, some (.aload_n 0, 1, xN), some (.getfield 132, 3, xF 0 44 2), none, none, some (.iload_n 2, 1, xN), some (.laload, 1, xN),
  some (.aload_n 0, 1, xN), some (.getfield 132, 3, xF 0 44 2), none, none, some (.iload_n 3, 1, xN), some (.laload, 1, xN), some (.invokestatic 452, 3, xN), none,
  none, some (.ifCond .eq (50), 3, xJ 99), none, none, some (.iload_n 2, 1, xN), some (.istore 4, 2, xN), none, some (.iload_n 2, 1, xN),
  some (.istore 5, 2, xN), none, some (.iload 5, 2, xN), none, some (.iload_n 3, 1, xN), some (.if_icmp .ge (35), 3, xJ 96), none, none,
  some (.aload_n 0, 1, xN), some (.getfield 449, 3, xF 0 59 1), none, none, some (.aload_n 0, 1, xN), some (.getfield 132, 3, xF 0 44 2), none, none,
  some (.iload 5, 2, xN), none, some (.laload, 1, xN), some (.invokestatic 446, 3, xN), none, none, some (.ifCond .eq (8), 3, xJ 86), none,
  none, some (.iload 4, 2, xN), none, some (.goto (5), 3, xJ 88), none, none, some (.iload 5, 2, xN), none,
  some (.istore 4, 2, xN), none, some (.iinc 5 (1), 3, xI (1)), none, none, some (.goto (-35), 3, xJ 58), none, none,
  some (.iload 4, 2, xN), none, some (.ireturn, 1, xN), some (.aload_n 0, 1, xN), some (.getfield 138, 3, xF 0 46 2), none, none, some (.iload_n 3, 1, xN),
  some (.baload, 1, xJ 3), some (.ifCond .eq (9), 3, xJ 114), none, none, some (.iload_n 3, 1, xN), some (.iconst 1, 1, xI (1)), some (.iadd, 1, xN), some (.goto (4), 3, xJ 115),
  none, none, some (.iload_n 2, 1, xN), some (.istore_n 2, 1, xN), some (.iinc 3 (1), 3, xI (1)), none, none, some (.goto (-110), 3, xJ 9),
  none, none, some (.iconst (-1), 1, xI (-1)), some (.ireturn, 1, xN)]
def M_Mo_rowOf : am_Me := (⟨R_Mo, "rowOf", "(I)I"⟩, prog_14_method_74_code, 6, (some .int), Y_Mo, cd_Mo_rowOf, 2, 48, 0, 0)
set_option maxRecDepth 100000 in
theorem ok_Mo_rowOf : am_ok S_m M_Mo_rowOf := am_ok_ofY (Y := Y_Mo) (cd := cd_Mo_rowOf) (by decide +kernel) rfl rfl rfl oY_Mo (by decide +kernel)
def cd_Mo_file : List (Option am_I) := [some (.aload_n 0, 1, xN), some (.iconst 0, 1, xI (0)), some (.putfield 144, 3, xF 0 1 0), none, none, some (.aload_n 0, 1, xN), some (.iload_n 1, 1, xN), some (.invokevirtual 473, 3, xN),
  none, none, some (.ifCond .eq (10), 3, xJ 20), none, none, some (.aload_n 0, 1, xN), some (.getfield 161, 3, xF 0 55 0), none,
  none, some (.ifCond .ne (5), 3, xJ 22), none, none, some (.iconst (-1), 1, xI (-1)), some (.ireturn, 1, xN), some (.aload_n 0, 1, xN), some (.getfield 99, 3, xF 0 30 2),
  none, none, some (.aload_n 0, 1, xN), some (.getfield 141, 3, xF 0 58 2), none, none, some (.iconst 0, 1, xI (0)), some (.iaload, 1, xN),
  some (.iaload, 1, xN), some (.istore_n 3, 1, xN), some (.aload_n 0, 1, xN), some (.iload_n 3, 1, xN), some (.invokevirtual 482, 3, xN), none, none, some (.istore 4, 2, xN),
  none, some (.iload_n 1, 1, xN), some (.ifCond .ne (7), 3, xJ 49), none, none, some (.iconst (-1), 1, xI (-1)), some (.goto (14), 3, xJ 60), none,
  none, some (.aload_n 0, 1, xN), some (.getfield 141, 3, xF 0 58 2), none, none, some (.aload_n 0, 1, xN), some (.getfield 161, 3, xF 0 55 0), none,
  none, some (.iload_n 1, 1, xN), some (.isub, 1, xN), some (.iaload, 1, xN), some (.istore 5, 2, xN), none, some (.iload_n 1, 1, xN), some (.ifCond .ne (17), 3, xJ 80),
  none, none, some (.iload 4, 2, xN), none, some (.iconst (-1), 1, xI (-1)), some (.if_icmp .eq (7), 3, xJ 76), none, none,
  some (.iconst 1, 1, xI (1)), some (.goto (14), 3, xJ 87), none, none, some (.iconst 0, 1, xI (0)), some (.goto (10), 3, xJ 87), none, none,
  some (.aload_n 0, 1, xN), some (.iload 5, 2, xN), none, some (.iconst 5, 1, xI (5)), some (.invokevirtual 290, 3, xN), none, none, some (.istore 6, 2, xN),
  none, some (.iload 6, 2, xN), none, some (.ifCond .ne (9), 3, xJ 100), none, none, some (.ldc2_w 181, 3, xL (-1)), none,
  none, some (.goto (24), 3, xJ 121), none, none, some (.iload_n 1, 1, xN), some (.ifCond .ne (13), 3, xJ 114), none, none,
  some (.aload_n 0, 1, xN), some (.getfield 135, 3, xF 0 45 2), none, none, some (.iload 4, 2, xN), none, some (.laload, 1, xN), some (.goto (10), 3, xJ 121),
  none, none, some (.aload_n 0, 1, xN), some (.iload 5, 2, xN), none, some (.iconst 5, 1, xI (5)), some (.invokevirtual 294, 3, xN), none,
  none, some (.lstore 7, 2, xN), none, some (.lload 7, 2, xN), none, some (.lconst 0, 1, xL 0), some (.aload_n 0, 1, xN), some (.getfield 117, 3, xF 0 39 2),
  none, none, some (.iload_n 3, 1, xN), some (.iaload, 1, xN), some (.i2l, 1, xN), some (.lconst 1, 1, xL 1), some (.lsub, 1, xN), some (.invokestatic 201, 3, xN),
  none, none, some (.ifCond .eq (24), 3, xJ 162), none, none, some (.aload_n 0, 1, xN), some (.aload_n 0, 1, xN), some (.getfield 120, 3, xF 0 40 2),
  none, none, some (.bipush 30, 2, xI (30)), none, some (.iload_n 3, 1, xN), some (.imul, 1, xN), some (.lload 7, 2, xN), none,
  some (.l2i, 1, xN), some (.iadd, 1, xN), some (.iaload, 1, xN), some (.iload_n 2, 1, xN), some (.invokevirtual 479, 3, xN), none, none, some (.goto (4), 3, xJ 163),
  none, none, some (.iconst (-1), 1, xI (-1)), some (.ireturn, 1, xN)]
def M_Mo_file : am_Me := (⟨R_Mo, "file", "(II)I"⟩, prog_14_method_75_code, 9, (some .int), Y_Mo, cd_Mo_file, 3, 73, 0, 0)
set_option maxRecDepth 100000 in
theorem ok_Mo_file : am_ok S_m M_Mo_file := am_ok_ofY (Y := Y_Mo) (cd := cd_Mo_file) (by decide +kernel) rfl rfl rfl oY_Mo (by decide +kernel)
def cd_Mo_line : List (Option am_I) := [some (.aload_n 0, 1, xN), some (.iconst 0, 1, xI (0)), some (.putfield 144, 3, xF 0 1 0), none, none, some (.aload_n 0, 1, xN), some (.iload_n 1, 1, xN), some (.invokevirtual 473, 3, xN),
  none, none, some (.ifCond .ne (5), 3, xJ 15), none, none, some (.iconst (-1), 1, xI (-1)), some (.ireturn, 1, xN), some (.aload_n 0, 1, xN),
  some (.getfield 161, 3, xF 0 55 0), none, none, some (.ifCond .ne (5), 3, xJ 24), none, none, some (.iconst 0, 1, xI (0)), some (.ireturn, 1, xN),
  some (.iload_n 1, 1, xN), some (.ifCond .ne (35), 3, xJ 60), none, none, some (.aload_n 0, 1, xN), some (.aload_n 0, 1, xN), some (.getfield 99, 3, xF 0 30 2), none,
  none, some (.aload_n 0, 1, xN), some (.getfield 141, 3, xF 0 58 2), none, none, some (.iconst 0, 1, xI (0)), some (.iaload, 1, xN), some (.iaload, 1, xN),
  some (.invokevirtual 482, 3, xN), none, none, some (.istore_n 2, 1, xN), some (.iload_n 2, 1, xN), some (.iconst (-1), 1, xI (-1)), some (.if_icmp .ne (7), 3, xJ 53), none,
  none, some (.iconst 0, 1, xI (0)), some (.goto (9), 3, xJ 59), none, none, some (.aload_n 0, 1, xN), some (.getfield 123, 3, xF 0 41 2), none,
  none, some (.iload_n 2, 1, xN), some (.iaload, 1, xN), some (.ireturn, 1, xN), some (.aload_n 0, 1, xN), some (.getfield 141, 3, xF 0 58 2), none, none,
  some (.aload_n 0, 1, xN), some (.getfield 161, 3, xF 0 55 0), none, none, some (.iload_n 1, 1, xN), some (.isub, 1, xN), some (.iaload, 1, xN), some (.istore_n 2, 1, xN),
  some (.aload_n 0, 1, xN), some (.iload_n 2, 1, xN), some (.bipush 6, 2, xI (6)), none, some (.invokevirtual 290, 3, xN), none, none, some (.ifCond .eq (14), 3, xJ 93),
  none, none, some (.aload_n 0, 1, xN), some (.iload_n 2, 1, xN), some (.bipush 6, 2, xI (6)), none, some (.invokevirtual 294, 3, xN), none,
  none, some (.l2i, 1, xN), some (.goto (4), 3, xJ 94), none, none, some (.iconst 0, 1, xI (0)), some (.ireturn, 1, xN)]
def M_Mo_line : am_Me := (⟨R_Mo, "line", "(I)I"⟩, prog_14_method_76_code, 3, (some .int), Y_Mo, cd_Mo_line, 3, 73, 0, 0)
set_option maxRecDepth 100000 in
theorem ok_Mo_line : am_ok S_m M_Mo_line := am_ok_ofY (Y := Y_Mo) (cd := cd_Mo_line) (by decide +kernel) rfl rfl rfl oY_Mo (by decide +kernel)
end
section
def am_lyB (tl : List Cond) (C : String) (T : u_T) : Nat → List Nat → Bool
  | _, [] => true
  | k, h :: hs => am_in tl h (u_lay C T k) && am_lyB tl C T (k + 1) hs
theorem am_ly_good (C : String) (T : u_T) (k : Nat) : goodWord (u_lay C T k) = true := by
  unfold u_lay
  split <;> rfl
theorem am_lyB_at {tl : List Cond} {C : String} {T : u_T} : ∀ (hs : List Nat) (k0 : Nat), am_lyB tl C T k0 hs = true → ∀ k, k < hs.length → u_lay C T (k0 + k) ∈ tl.filter goodWord
  | [], _, _, k, hk => by simp at hk
  | h :: hs, k0, hb, k, hk => by
    simp only [am_lyB, Bool.and_eq_true] at hb
    match k, hk with
    | 0, _ => exact am_in_g hb.1 (am_ly_good _ _ _)
    | k + 1, hk =>
      have h1 := am_lyB_at hs (k0 + 1) hb.2 k (by simpa using hk)
      rw [show k0 + 1 + k = k0 + (k + 1) by omega] at h1
      exact h1
theorem am_lyB_ok {tl : List Cond} {C : String} {T : u_T} {N : Nat} {hs : List Nat} (hb : am_lyB tl C T 0 hs = true) (hn : hs.length = N) : ∀ w ∈ u_ws C T N, w ∈ tl.filter goodWord := by
  intro w hw
  obtain ⟨k, hk, rfl⟩ := List.mem_map.mp hw
  have := am_lyB_at hs 0 hb k (by rw [hn]; exact List.mem_range.mp hk)
  rwa [Nat.zero_add] at this
def am_c1k (q : vw_C) (tw : List Cond) : Prop := (∀ w ∈ u_ws q.1 q.2.1 q.2.2, w ∈ tw) ∧ (∀ a, a < q.2.2 → ∀ b, b < q.2.2 → a ≠ b → (q.2.1 a).2.1 ≠ (q.2.1 b).2.1) ∧ ∃ ty : Nat → FieldType, ∀ k, k < q.2.2 → parseFieldDescriptor (q.2.1 k).2.2.1 = some (ty k)
theorem nm_F : ∀ a, a < 13 → ∀ b, b < 13 → a ≠ b → (F_F a).2.1 ≠ (F_F b).2.1 := by decide +kernel
theorem ty_F : ∀ k, k < 13 → parseFieldDescriptor (F_F k).2.2.1 = some (t_F k) := by decide +kernel
theorem ly_F : ∀ w ∈ u_ws R_F F_F 13, w ∈ tw_ := am_lyB_ok (hs := [593, 595, 597, 599, 601, 603, 605, 607, 609, 611, 613, 615, 617]) (by decide +kernel) rfl
theorem ck_F : am_c1k (R_F, F_F, 13) tw_ := ⟨ly_F, nm_F, t_F, ty_F⟩
theorem nm_Se : ∀ a, a < 11 → ∀ b, b < 11 → a ≠ b → (F_Se a).2.1 ≠ (F_Se b).2.1 := by decide +kernel
theorem ty_Se : ∀ k, k < 11 → parseFieldDescriptor (F_Se k).2.2.1 = some (t_Se k) := by decide +kernel
theorem ly_Se : ∀ w ∈ u_ws R_Se F_Se 11, w ∈ tw_ := am_lyB_ok (hs := [199, 201, 203, 205, 207, 209, 211, 213, 215, 217, 219]) (by decide +kernel) rfl
theorem ck_Se : am_c1k (R_Se, F_Se, 11) tw_ := ⟨ly_Se, nm_Se, t_Se, ty_Se⟩
theorem nm_Cu : ∀ a, a < 4 → ∀ b, b < 4 → a ≠ b → (F_Cu a).2.1 ≠ (F_Cu b).2.1 := by decide +kernel
theorem ty_Cu : ∀ k, k < 4 → parseFieldDescriptor (F_Cu k).2.2.1 = some (t_Cu k) := by decide +kernel
theorem ly_Cu : ∀ w ∈ u_ws R_Cu F_Cu 4, w ∈ tw_ := am_lyB_ok (hs := [174, 176, 178, 180]) (by decide +kernel) rfl
theorem ck_Cu : am_c1k (R_Cu, F_Cu, 4) tw_ := ⟨ly_Cu, nm_Cu, t_Cu, ty_Cu⟩
theorem nm_En : ∀ a, a < 12 → ∀ b, b < 12 → a ≠ b → (F_En a).2.1 ≠ (F_En b).2.1 := by decide +kernel
theorem ty_En : ∀ k, k < 12 → parseFieldDescriptor (F_En k).2.2.1 = some (t_En k) := by decide +kernel
theorem ly_En : ∀ w ∈ u_ws R_En F_En 12, w ∈ tw_ := am_lyB_ok (hs := [262, 264, 266, 268, 270, 272, 274, 276, 278, 280, 282, 284]) (by decide +kernel) rfl
theorem ck_En : am_c1k (R_En, F_En, 12) tw_ := ⟨ly_En, nm_En, t_En, ty_En⟩
theorem nm_Ur : ∀ a, a < 7 → ∀ b, b < 7 → a ≠ b → (F_Ur a).2.1 ≠ (F_Ur b).2.1 := by decide +kernel
theorem ty_Ur : ∀ k, k < 7 → parseFieldDescriptor (F_Ur k).2.2.1 = some (t_Ur k) := by decide +kernel
theorem ly_Ur : ∀ w ∈ u_ws R_Ur F_Ur 7, w ∈ tw_ := am_lyB_ok (hs := [339, 341, 343, 345, 347, 349, 351]) (by decide +kernel) rfl
theorem ck_Ur : am_c1k (R_Ur, F_Ur, 7) tw_ := ⟨ly_Ur, nm_Ur, t_Ur, ty_Ur⟩
theorem nm_Ab : ∀ a, a < 8 → ∀ b, b < 8 → a ≠ b → (F_Ab a).2.1 ≠ (F_Ab b).2.1 := by decide +kernel
theorem ty_Ab : ∀ k, k < 8 → parseFieldDescriptor (F_Ab k).2.2.1 = some (t_Ab k) := by decide +kernel
theorem ly_Ab : ∀ w ∈ u_ws R_Ab F_Ab 8, w ∈ tw_ := am_lyB_ok (hs := [313, 315, 317, 319, 321, 323, 325, 327]) (by decide +kernel) rfl
theorem ck_Ab : am_c1k (R_Ab, F_Ab, 8) tw_ := ⟨ly_Ab, nm_Ab, t_Ab, ty_Ab⟩
theorem nm_Ra : ∀ a, a < 5 → ∀ b, b < 5 → a ≠ b → (F_Ra a).2.1 ≠ (F_Ra b).2.1 := by decide +kernel
theorem ty_Ra : ∀ k, k < 5 → parseFieldDescriptor (F_Ra k).2.2.1 = some (t_Ra k) := by decide +kernel
theorem ly_Ra : ∀ w ∈ u_ws R_Ra F_Ra 5, w ∈ tw_ := am_lyB_ok (hs := [367, 369, 371, 373, 375]) (by decide +kernel) rfl
theorem ck_Ra : am_c1k (R_Ra, F_Ra, 5) tw_ := ⟨ly_Ra, nm_Ra, t_Ra, ty_Ra⟩
theorem nm_Va : ∀ a, a < 7 → ∀ b, b < 7 → a ≠ b → (F_Va a).2.1 ≠ (F_Va b).2.1 := by decide +kernel
theorem ty_Va : ∀ k, k < 7 → parseFieldDescriptor (F_Va k).2.2.1 = some (t_Va k) := by decide +kernel
theorem ly_Va : ∀ w ∈ u_ws R_Va F_Va 7, w ∈ tw_ := am_lyB_ok (hs := [393, 395, 397, 399, 401, 403, 405]) (by decide +kernel) rfl
theorem ck_Va : am_c1k (R_Va, F_Va, 7) tw_ := ⟨ly_Va, nm_Va, t_Va, ty_Va⟩
theorem nm_Ro : ∀ a, a < 9 → ∀ b, b < 9 → a ≠ b → (F_Ro a).2.1 ≠ (F_Ro b).2.1 := by decide +kernel
theorem ty_Ro : ∀ k, k < 9 → parseFieldDescriptor (F_Ro k).2.2.1 = some (t_Ro k) := by decide +kernel
theorem ly_Ro : ∀ w ∈ u_ws R_Ro F_Ro 9, w ∈ tw_ := am_lyB_ok (hs := [426, 428, 430, 432, 434, 436, 438, 440, 442]) (by decide +kernel) rfl
theorem ck_Ro : am_c1k (R_Ro, F_Ro, 9) tw_ := ⟨ly_Ro, nm_Ro, t_Ro, ty_Ro⟩
theorem nm_Li : ∀ a, a < 15 → ∀ b, b < 15 → a ≠ b → (F_Li a).2.1 ≠ (F_Li b).2.1 := by decide +kernel
theorem ty_Li : ∀ k, k < 15 → parseFieldDescriptor (F_Li k).2.2.1 = some (t_Li k) := by decide +kernel
theorem ly_Li : ∀ w ∈ u_ws R_Li F_Li 15, w ∈ tw_ := am_lyB_ok (hs := [468, 470, 472, 474, 476, 478, 480, 482, 484, 486, 488, 490, 492, 494, 496]) (by decide +kernel) rfl
theorem ck_Li : am_c1k (R_Li, F_Li, 15) tw_ := ⟨ly_Li, nm_Li, t_Li, ty_Li⟩
theorem nm_Sy : ∀ a, a < 7 → ∀ b, b < 7 → a ≠ b → (F_Sy a).2.1 ≠ (F_Sy b).2.1 := by decide +kernel
theorem ty_Sy : ∀ k, k < 7 → parseFieldDescriptor (F_Sy k).2.2.1 = some (t_Sy k) := by decide +kernel
theorem ly_Sy : ∀ w ∈ u_ws R_Sy F_Sy 7, w ∈ tw_ := am_lyB_ok (hs := [516, 518, 520, 522, 524, 526, 528]) (by decide +kernel) rfl
theorem ck_Sy : am_c1k (R_Sy, F_Sy, 7) tw_ := ⟨ly_Sy, nm_Sy, t_Sy, ty_Sy⟩
theorem nm_Fr : ∀ a, a < 12 → ∀ b, b < 12 → a ≠ b → (F_Fr a).2.1 ≠ (F_Fr b).2.1 := by decide +kernel
theorem ty_Fr : ∀ k, k < 12 → parseFieldDescriptor (F_Fr k).2.2.1 = some (t_Fr k) := by decide +kernel
theorem ly_Fr : ∀ w ∈ u_ws R_Fr F_Fr 12, w ∈ tw_ := am_lyB_ok (hs := [555, 557, 559, 561, 563, 565, 567, 569, 571, 573, 575, 577]) (by decide +kernel) rfl
theorem ck_Fr : am_c1k (R_Fr, F_Fr, 12) tw_ := ⟨ly_Fr, nm_Fr, t_Fr, ty_Fr⟩
theorem nm_Mo : ∀ a, a < 60 → ∀ b, b < 60 → a ≠ b → (F_Mo a).2.1 ≠ (F_Mo b).2.1 := by decide +kernel
theorem ty_Mo : ∀ k, k < 60 → parseFieldDescriptor (F_Mo k).2.2.1 = some (t_Mo k) := by decide +kernel
theorem ly_Mo : ∀ w ∈ u_ws R_Mo F_Mo 60, w ∈ tw_ := am_lyB_ok (hs := [1345, 1347, 1349, 1351, 1353, 1355, 1357, 1359, 1361, 1363, 1365, 1367, 1369, 1371, 1373, 1375, 1377, 1379, 1381, 1383, 1385, 1387, 1389, 1391, 1393, 1395, 1397, 1399, 1401, 1403, 1405, 1407, 1409, 1411, 1413, 1415, 1417, 1419, 1421, 1423, 1425, 1427, 1429, 1431, 1433, 1435, 1437, 1439, 1441, 1443, 1445, 1447, 1449, 1451, 1453, 1455, 1457, 1459, 1461, 1463]) (by decide +kernel) rfl
theorem ck_Mo : am_c1k (R_Mo, F_Mo, 60) tw_ := ⟨ly_Mo, nm_Mo, t_Mo, ty_Mo⟩
theorem cok_c : am_cok cl_c tw_ := by
  intro ci q hq
  match ci, hq with
  | 0, hq => cases hq; exact ck_F
  | 1, hq => cases hq; exact ck_Se
  | 2, hq => cases hq; exact ck_Cu
  | 3, hq => cases hq; exact ck_En
  | 4, hq => cases hq; exact ck_Ur
  | 5, hq => cases hq; exact ck_Ab
  | 6, hq => cases hq; exact ck_Ra
  | 7, hq => cases hq; exact ck_Va
  | 8, hq => cases hq; exact ck_Ro
  | 9, hq => cases hq; exact ck_Li
  | 10, hq => cases hq; exact ck_Sy
  | 11, hq => cases hq; exact ck_Fr
  | n + 12, hq => simp [cl_c] at hq
set_option maxRecDepth 100000 in
theorem sys_c : am_sys S_c := ⟨cok_c, fun w hw => (List.mem_filter.mp hw).2, fun w hw => (List.mem_filter.mp hw).2⟩
theorem cok_m : am_cok cl_m tw_ := by
  intro ci q hq
  match ci, hq with
  | 0, hq => cases hq; exact ck_Mo
  | n + 1, hq => simp [cl_m] at hq
set_option maxRecDepth 100000 in
theorem sys_m : am_sys S_m := ⟨cok_m, fun w hw => (List.mem_filter.mp hw).2, fun w hw => (List.mem_filter.mp hw).2⟩
end
section
theorem i_Cu_set_0 : am_I1 S_c M_Cu_set 0 1 (.aload_n 0) (xN) := ⟨sys_c, ok_Cu_set, by decide +kernel⟩
theorem i_Cu_set_1 : am_I1 S_c M_Cu_set 1 1 (.iload_n 1) (xN) := ⟨sys_c, ok_Cu_set, by decide +kernel⟩
theorem i_Cu_set_2 : am_I1 S_c M_Cu_set 2 3 (.putfield 15) (xF 2 1 0) := ⟨sys_c, ok_Cu_set, by decide +kernel⟩
theorem i_Cu_set_5 : am_I1 S_c M_Cu_set 5 1 (.aload_n 0) (xN) := ⟨sys_c, ok_Cu_set, by decide +kernel⟩
theorem i_Cu_set_6 : am_I1 S_c M_Cu_set 6 1 (.iload_n 2) (xN) := ⟨sys_c, ok_Cu_set, by decide +kernel⟩
theorem i_Cu_set_7 : am_I1 S_c M_Cu_set 7 3 (.putfield 19) (xF 2 2 0) := ⟨sys_c, ok_Cu_set, by decide +kernel⟩
theorem i_Cu_set_10 : am_I1 S_c M_Cu_set 10 1 (.aload_n 0) (xN) := ⟨sys_c, ok_Cu_set, by decide +kernel⟩
theorem i_Cu_set_11 : am_I1 S_c M_Cu_set 11 1 (.iconst 0) (xI (0)) := ⟨sys_c, ok_Cu_set, by decide +kernel⟩
theorem i_Cu_set_12 : am_I1 S_c M_Cu_set 12 3 (.putfield 22) (xF 2 3 3) := ⟨sys_c, ok_Cu_set, by decide +kernel⟩
theorem i_Cu_number_0 : am_I1 S_c M_Cu_number 0 1 (.aload_n 0) (xN) := ⟨sys_c, ok_Cu_number, by decide +kernel⟩
theorem i_Cu_number_1 : am_I1 S_c M_Cu_number 1 3 (.getfield 22) (xF 2 3 3) := ⟨sys_c, ok_Cu_number, by decide +kernel⟩
theorem i_Cu_number_4 : am_I1 S_c M_Cu_number 4 3 (.ifCond .ne (16)) (xJ 20) := ⟨sys_c, ok_Cu_number, by decide +kernel⟩
theorem i_Cu_number_7 : am_I1 S_c M_Cu_number 7 1 (.aload_n 0) (xN) := ⟨sys_c, ok_Cu_number, by decide +kernel⟩
theorem i_Cu_number_8 : am_I1 S_c M_Cu_number 8 3 (.getfield 19) (xF 2 2 0) := ⟨sys_c, ok_Cu_number, by decide +kernel⟩
theorem i_Cu_number_11 : am_I1 S_c M_Cu_number 11 1 (.aload_n 0) (xN) := ⟨sys_c, ok_Cu_number, by decide +kernel⟩
theorem i_Cu_number_12 : am_I1 S_c M_Cu_number 12 3 (.getfield 15) (xF 2 1 0) := ⟨sys_c, ok_Cu_number, by decide +kernel⟩
theorem i_Cu_number_15 : am_I1 S_c M_Cu_number 15 1 (.isub) (xN) := ⟨sys_c, ok_Cu_number, by decide +kernel⟩
theorem i_Cu_number_16 : am_I1 S_c M_Cu_number 16 1 (.iload_n 1) (xN) := ⟨sys_c, ok_Cu_number, by decide +kernel⟩
theorem i_Cu_number_17 : am_I1 S_c M_Cu_number 17 3 (.if_icmp .ge (10)) (xJ 27) := ⟨sys_c, ok_Cu_number, by decide +kernel⟩
theorem i_Cu_number_20 : am_I1 S_c M_Cu_number 20 1 (.aload_n 0) (xN) := ⟨sys_c, ok_Cu_number, by decide +kernel⟩
theorem i_Cu_number_21 : am_I1 S_c M_Cu_number 21 1 (.iconst 1) (xI (1)) := ⟨sys_c, ok_Cu_number, by decide +kernel⟩
theorem i_Cu_number_22 : am_I1 S_c M_Cu_number 22 3 (.putfield 22) (xF 2 3 3) := ⟨sys_c, ok_Cu_number, by decide +kernel⟩
theorem i_Cu_number_25 : am_I1 S_c M_Cu_number 25 1 (.lconst 0) (xL 0) := ⟨sys_c, ok_Cu_number, by decide +kernel⟩
theorem i_Cu_number_27 : am_I1 S_c M_Cu_number 27 1 (.lconst 0) (xL 0) := ⟨sys_c, ok_Cu_number, by decide +kernel⟩
theorem i_Cu_number_28 : am_I1 S_c M_Cu_number 28 1 (.lstore_n 2) (xN) := ⟨sys_c, ok_Cu_number, by decide +kernel⟩
theorem i_Cu_number_29 : am_I1 S_c M_Cu_number 29 1 (.iload_n 1) (xN) := ⟨sys_c, ok_Cu_number, by decide +kernel⟩
theorem i_Cu_number_30 : am_I1 S_c M_Cu_number 30 1 (.iconst 1) (xI (1)) := ⟨sys_c, ok_Cu_number, by decide +kernel⟩
theorem i_Cu_number_31 : am_I1 S_c M_Cu_number 31 1 (.isub) (xN) := ⟨sys_c, ok_Cu_number, by decide +kernel⟩
theorem i_Cu_number_32 : am_I1 S_c M_Cu_number 32 2 (.istore 4) (xN) := ⟨sys_c, ok_Cu_number, by decide +kernel⟩
theorem i_Cu_number_34 : am_I1 S_c M_Cu_number 34 2 (.iload 4) (xN) := ⟨sys_c, ok_Cu_number, by decide +kernel⟩
theorem i_Cu_number_36 : am_I1 S_c M_Cu_number 36 3 (.ifCond .lt (32)) (xJ 68) := ⟨sys_c, ok_Cu_number, by decide +kernel⟩
theorem i_Cu_number_39 : am_I1 S_c M_Cu_number 39 1 (.lload_n 2) (xN) := ⟨sys_c, ok_Cu_number, by decide +kernel⟩
theorem i_Cu_number_40 : am_I1 S_c M_Cu_number 40 2 (.bipush 8) (xI (8)) := ⟨sys_c, ok_Cu_number, by decide +kernel⟩
theorem i_Cu_number_42 : am_I1 S_c M_Cu_number 42 1 (.lshl) (xN) := ⟨sys_c, ok_Cu_number, by decide +kernel⟩
theorem i_Cu_number_43 : am_I1 S_c M_Cu_number 43 1 (.aload_n 0) (xN) := ⟨sys_c, ok_Cu_number, by decide +kernel⟩
theorem i_Cu_number_44 : am_I1 S_c M_Cu_number 44 3 (.getfield 9) (xF 2 0 2) := ⟨sys_c, ok_Cu_number, by decide +kernel⟩
theorem i_Cu_number_47 : am_I1 S_c M_Cu_number 47 1 (.aload_n 0) (xN) := ⟨sys_c, ok_Cu_number, by decide +kernel⟩
theorem i_Cu_number_48 : am_I1 S_c M_Cu_number 48 3 (.getfield 15) (xF 2 1 0) := ⟨sys_c, ok_Cu_number, by decide +kernel⟩
theorem i_Cu_number_51 : am_I1 S_c M_Cu_number 51 2 (.iload 4) (xN) := ⟨sys_c, ok_Cu_number, by decide +kernel⟩
theorem i_Cu_number_53 : am_I1 S_c M_Cu_number 53 1 (.iadd) (xN) := ⟨sys_c, ok_Cu_number, by decide +kernel⟩
theorem i_Cu_number_54 : am_I1 S_c M_Cu_number 54 1 (.baload) (xJ 2) := ⟨sys_c, ok_Cu_number, by decide +kernel⟩
theorem i_Cu_number_55 : am_I1 S_c M_Cu_number 55 3 (.sipush 255) (xI (255)) := ⟨sys_c, ok_Cu_number, by decide +kernel⟩
theorem i_Cu_number_58 : am_I1 S_c M_Cu_number 58 1 (.iand) (xN) := ⟨sys_c, ok_Cu_number, by decide +kernel⟩
theorem i_Cu_number_59 : am_I1 S_c M_Cu_number 59 1 (.i2l) (xN) := ⟨sys_c, ok_Cu_number, by decide +kernel⟩
theorem i_Cu_number_60 : am_I1 S_c M_Cu_number 60 1 (.lor) (xN) := ⟨sys_c, ok_Cu_number, by decide +kernel⟩
theorem i_Cu_number_61 : am_I1 S_c M_Cu_number 61 1 (.lstore_n 2) (xN) := ⟨sys_c, ok_Cu_number, by decide +kernel⟩
theorem i_Cu_number_62 : am_I1 S_c M_Cu_number 62 3 (.iinc 4 (-1)) (xI (-1)) := ⟨sys_c, ok_Cu_number, by decide +kernel⟩
theorem i_Cu_number_65 : am_I1 S_c M_Cu_number 65 3 (.goto (-31)) (xJ 34) := ⟨sys_c, ok_Cu_number, by decide +kernel⟩
theorem i_Cu_number_68 : am_I1 S_c M_Cu_number 68 1 (.aload_n 0) (xN) := ⟨sys_c, ok_Cu_number, by decide +kernel⟩
theorem i_Cu_number_69 : am_I1 S_c M_Cu_number 69 1 (.dup) (xN) := ⟨sys_c, ok_Cu_number, by decide +kernel⟩
theorem i_Cu_number_70 : am_I1 S_c M_Cu_number 70 3 (.getfield 15) (xF 2 1 0) := ⟨sys_c, ok_Cu_number, by decide +kernel⟩
theorem i_Cu_number_73 : am_I1 S_c M_Cu_number 73 1 (.iload_n 1) (xN) := ⟨sys_c, ok_Cu_number, by decide +kernel⟩
theorem i_Cu_number_74 : am_I1 S_c M_Cu_number 74 1 (.iadd) (xN) := ⟨sys_c, ok_Cu_number, by decide +kernel⟩
theorem i_Cu_number_75 : am_I1 S_c M_Cu_number 75 3 (.putfield 15) (xF 2 1 0) := ⟨sys_c, ok_Cu_number, by decide +kernel⟩
theorem i_Cu_number_78 : am_I1 S_c M_Cu_number 78 1 (.lload_n 2) (xN) := ⟨sys_c, ok_Cu_number, by decide +kernel⟩
end
section
/-! call sites, bundled -/
def am_V (S : am_Sy) (M M2 : am_Me) (pc n ci : Nat) : Prop := am_sys S ∧ am_ok S M ∧ ∃ (idx : Nat) (nest : Bool) (x : am_X) (q : vw_C), (am_cd M)[pc]? = some (some (.invokevirtual idx, 3, x)) ∧ am_lk S M M2 idx nest n ∧ Cond.instanceMethod (am_nm M2) ∈ am_tw S ∧ Cond.selects (am_nm M2).cls (am_nm M2) (am_nm M2) ∈ am_tw S ∧ (am_cl S)[ci]? = some q ∧ q.1 = (am_nm M2).cls
def am_T (S : am_Sy) (M M2 : am_Me) (pc n : Nat) : Prop := am_sys S ∧ am_ok S M ∧ ∃ (idx : Nat) (nest : Bool) (x : am_X), (am_cd M)[pc]? = some (some (.invokestatic idx, 3, x)) ∧ am_lk S M M2 idx nest n ∧ Cond.static (am_nm M2) ∈ am_tw S
def am_vB (S : am_Sy) (tl : List Cond) (M2 : am_Me) (ci h4 h5 : Nat) : Bool := am_in tl h4 (.instanceMethod (am_nm M2)) && am_in tl h5 (.selects (am_nm M2).cls (am_nm M2) (am_nm M2)) && (match (am_cl S)[ci]? with
  | some q => decide (q.1 = (am_nm M2).cls)
  | none => false)
def am_tB (tl : List Cond) (M2 : am_Me) (h4 : Nat) : Bool := am_in tl h4 (.static (am_nm M2))
theorem am_V_of {S : am_Sy} {tl : List Cond} {M M2 : am_Me} {pc idx n ci h1 h2 h3 h4 h5 : Nat} {nest : Bool} (hS : am_sys S) (hM : am_ok S M) (ht : am_tw S = tl.filter goodWord) (hn : am_nn S = tl.filter am_nest) (hc : (am_cd M)[pc]? = some (some (.invokevirtual idx, 3, xN))) (hl : am_lB S tl M M2 idx nest n h1 h2 h3 = true) (hv : am_vB S tl M2 ci h4 h5 = true) : am_V S M M2 pc n ci := by
  unfold am_vB at hv
  simp only [Bool.and_eq_true, decide_eq_true_eq] at hv
  obtain ⟨⟨b2, b3⟩, b4⟩ := hv
  split at b4
  · rename_i q hq
    exact ⟨hS, hM, idx, nest, xN, q, hc, am_lB_ok ht hn hl, by rw [ht]; exact am_in_g b2 rfl, by rw [ht]; exact am_in_g b3 rfl, hq, of_decide_eq_true b4⟩
  · cases b4
theorem am_T_of {S : am_Sy} {tl : List Cond} {M M2 : am_Me} {pc idx n h1 h2 h3 h4 : Nat} {nest : Bool} (hS : am_sys S) (hM : am_ok S M) (ht : am_tw S = tl.filter goodWord) (hn : am_nn S = tl.filter am_nest) (hc : (am_cd M)[pc]? = some (some (.invokestatic idx, 3, xN))) (hl : am_lB S tl M M2 idx nest n h1 h2 h3 = true) (hv : am_tB tl M2 h4 = true) : am_T S M M2 pc n := by
  exact ⟨hS, hM, idx, nest, xN, hc, am_lB_ok ht hn hl, by rw [ht]; exact am_in_g hv rfl⟩
def am_is (S : am_Sy) (k ci : Nat) : Prop := k < am_nw S ∧ ∃ ks, am_sh S k = .inr (ci, ks)
theorem am_cv {S : am_Sy} {M M2 : am_Me} {pc n ci k : Nat} {L : List (Option Value)} {rest : List Value} {σ : am_S} {F : am_Fn} {post : Option Value → am_S → Prop} (as : List Value) (c : am_V S M M2 pc n ci) (hk : am_is S k ci) (hn : as.length = n) (hw : (rest.map Value.category).sum ≤ 8) (hM2 : am_Mt S M2 (.ref k :: as) σ post)
    (kk : ∀ r σ', post r σ' → am_A S M (pc + 3, L, r.toList ++ rest, σ') F) : am_A S M (pc, L, as.reverse ++ .ref k :: rest, σ) F := by
  obtain ⟨hS, hM, idx, nest, x, q, hq, hl, hi, hse, hc, he⟩ := c
  obtain ⟨hk1, ks, hk2⟩ := hk
  exact am_callV hS hM hq hl hi hse hk1 hk2 hc he hn hw hM2 kk
theorem am_cs' {S : am_Sy} {M M2 : am_Me} {pc n : Nat} {L : List (Option Value)} {rest : List Value} {σ : am_S} {F : am_Fn} {post : Option Value → am_S → Prop} (as : List Value) (c : am_T S M M2 pc n) (hn : as.length = n) (hw : (rest.map Value.category).sum ≤ 8) (hM2 : am_Mt S M2 as σ post)
    (kk : ∀ r σ', post r σ' → am_A S M (pc + 3, L, r.toList ++ rest, σ') F) : am_A S M (pc, L, as.reverse ++ rest, σ) F := by
  obtain ⟨hS, hM, idx, nest, x, hq, hl, hi⟩ := c
  exact am_callS hS hM hq hl hi hn hw hM2 kk
set_option maxRecDepth 100000 in
theorem ht_c : am_tw S_c = lw_tbl.filter goodWord := rfl
set_option maxRecDepth 100000 in
theorem hn_c : am_nn S_c = lw_tbl.filter am_nest := rfl
set_option maxRecDepth 100000 in
theorem ht_m : am_tw S_m = lw_tbl.filter goodWord := rfl
set_option maxRecDepth 100000 in
theorem hn_m : am_nn S_m = lw_tbl.filter am_nest := rfl
end
section
theorem i_Cu_set_0 : am_I1 S_c M_Cu_set 0 1 (.aload_n 0) (xN) := ⟨sys_c, ok_Cu_set, rfl⟩
theorem i_Cu_set_1 : am_I1 S_c M_Cu_set 1 1 (.iload_n 1) (xN) := ⟨sys_c, ok_Cu_set, rfl⟩
theorem i_Cu_set_2 : am_I1 S_c M_Cu_set 2 3 (.putfield 15) (xF 2 1 0) := ⟨sys_c, ok_Cu_set, rfl⟩
theorem i_Cu_set_5 : am_I1 S_c M_Cu_set 5 1 (.aload_n 0) (xN) := ⟨sys_c, ok_Cu_set, rfl⟩
theorem i_Cu_set_6 : am_I1 S_c M_Cu_set 6 1 (.iload_n 2) (xN) := ⟨sys_c, ok_Cu_set, rfl⟩
theorem i_Cu_set_7 : am_I1 S_c M_Cu_set 7 3 (.putfield 19) (xF 2 2 0) := ⟨sys_c, ok_Cu_set, rfl⟩
theorem i_Cu_set_10 : am_I1 S_c M_Cu_set 10 1 (.aload_n 0) (xN) := ⟨sys_c, ok_Cu_set, rfl⟩
theorem i_Cu_set_11 : am_I1 S_c M_Cu_set 11 1 (.iconst 0) (xI (0)) := ⟨sys_c, ok_Cu_set, rfl⟩
theorem i_Cu_set_12 : am_I1 S_c M_Cu_set 12 3 (.putfield 22) (xF 2 3 3) := ⟨sys_c, ok_Cu_set, rfl⟩
theorem i_Cu_number_0 : am_I1 S_c M_Cu_number 0 1 (.aload_n 0) (xN) := ⟨sys_c, ok_Cu_number, rfl⟩
theorem i_Cu_number_1 : am_I1 S_c M_Cu_number 1 3 (.getfield 22) (xF 2 3 3) := ⟨sys_c, ok_Cu_number, rfl⟩
theorem i_Cu_number_4 : am_I1 S_c M_Cu_number 4 3 (.ifCond .ne (16)) (xJ 20) := ⟨sys_c, ok_Cu_number, rfl⟩
theorem i_Cu_number_7 : am_I1 S_c M_Cu_number 7 1 (.aload_n 0) (xN) := ⟨sys_c, ok_Cu_number, rfl⟩
theorem i_Cu_number_8 : am_I1 S_c M_Cu_number 8 3 (.getfield 19) (xF 2 2 0) := ⟨sys_c, ok_Cu_number, rfl⟩
theorem i_Cu_number_11 : am_I1 S_c M_Cu_number 11 1 (.aload_n 0) (xN) := ⟨sys_c, ok_Cu_number, rfl⟩
theorem i_Cu_number_12 : am_I1 S_c M_Cu_number 12 3 (.getfield 15) (xF 2 1 0) := ⟨sys_c, ok_Cu_number, rfl⟩
theorem i_Cu_number_15 : am_I1 S_c M_Cu_number 15 1 (.isub) (xN) := ⟨sys_c, ok_Cu_number, rfl⟩
theorem i_Cu_number_16 : am_I1 S_c M_Cu_number 16 1 (.iload_n 1) (xN) := ⟨sys_c, ok_Cu_number, rfl⟩
theorem i_Cu_number_17 : am_I1 S_c M_Cu_number 17 3 (.if_icmp .ge (10)) (xJ 27) := ⟨sys_c, ok_Cu_number, rfl⟩
theorem i_Cu_number_20 : am_I1 S_c M_Cu_number 20 1 (.aload_n 0) (xN) := ⟨sys_c, ok_Cu_number, rfl⟩
theorem i_Cu_number_21 : am_I1 S_c M_Cu_number 21 1 (.iconst 1) (xI (1)) := ⟨sys_c, ok_Cu_number, rfl⟩
theorem i_Cu_number_22 : am_I1 S_c M_Cu_number 22 3 (.putfield 22) (xF 2 3 3) := ⟨sys_c, ok_Cu_number, rfl⟩
theorem i_Cu_number_25 : am_I1 S_c M_Cu_number 25 1 (.lconst 0) (xL 0) := ⟨sys_c, ok_Cu_number, rfl⟩
theorem i_Cu_number_27 : am_I1 S_c M_Cu_number 27 1 (.lconst 0) (xL 0) := ⟨sys_c, ok_Cu_number, rfl⟩
theorem i_Cu_number_28 : am_I1 S_c M_Cu_number 28 1 (.lstore_n 2) (xN) := ⟨sys_c, ok_Cu_number, rfl⟩
theorem i_Cu_number_29 : am_I1 S_c M_Cu_number 29 1 (.iload_n 1) (xN) := ⟨sys_c, ok_Cu_number, rfl⟩
theorem i_Cu_number_30 : am_I1 S_c M_Cu_number 30 1 (.iconst 1) (xI (1)) := ⟨sys_c, ok_Cu_number, rfl⟩
theorem i_Cu_number_31 : am_I1 S_c M_Cu_number 31 1 (.isub) (xN) := ⟨sys_c, ok_Cu_number, rfl⟩
theorem i_Cu_number_32 : am_I1 S_c M_Cu_number 32 2 (.istore 4) (xN) := ⟨sys_c, ok_Cu_number, rfl⟩
theorem i_Cu_number_34 : am_I1 S_c M_Cu_number 34 2 (.iload 4) (xN) := ⟨sys_c, ok_Cu_number, rfl⟩
theorem i_Cu_number_36 : am_I1 S_c M_Cu_number 36 3 (.ifCond .lt (32)) (xJ 68) := ⟨sys_c, ok_Cu_number, rfl⟩
theorem i_Cu_number_39 : am_I1 S_c M_Cu_number 39 1 (.lload_n 2) (xN) := ⟨sys_c, ok_Cu_number, rfl⟩
theorem i_Cu_number_40 : am_I1 S_c M_Cu_number 40 2 (.bipush 8) (xI (8)) := ⟨sys_c, ok_Cu_number, rfl⟩
theorem i_Cu_number_42 : am_I1 S_c M_Cu_number 42 1 (.lshl) (xN) := ⟨sys_c, ok_Cu_number, rfl⟩
theorem i_Cu_number_43 : am_I1 S_c M_Cu_number 43 1 (.aload_n 0) (xN) := ⟨sys_c, ok_Cu_number, rfl⟩
theorem i_Cu_number_44 : am_I1 S_c M_Cu_number 44 3 (.getfield 9) (xF 2 0 2) := ⟨sys_c, ok_Cu_number, rfl⟩
theorem i_Cu_number_47 : am_I1 S_c M_Cu_number 47 1 (.aload_n 0) (xN) := ⟨sys_c, ok_Cu_number, rfl⟩
theorem i_Cu_number_48 : am_I1 S_c M_Cu_number 48 3 (.getfield 15) (xF 2 1 0) := ⟨sys_c, ok_Cu_number, rfl⟩
theorem i_Cu_number_51 : am_I1 S_c M_Cu_number 51 2 (.iload 4) (xN) := ⟨sys_c, ok_Cu_number, rfl⟩
theorem i_Cu_number_53 : am_I1 S_c M_Cu_number 53 1 (.iadd) (xN) := ⟨sys_c, ok_Cu_number, rfl⟩
theorem i_Cu_number_54 : am_I1 S_c M_Cu_number 54 1 (.baload) (xJ 2) := ⟨sys_c, ok_Cu_number, rfl⟩
theorem i_Cu_number_55 : am_I1 S_c M_Cu_number 55 3 (.sipush 255) (xI (255)) := ⟨sys_c, ok_Cu_number, rfl⟩
theorem i_Cu_number_58 : am_I1 S_c M_Cu_number 58 1 (.iand) (xN) := ⟨sys_c, ok_Cu_number, rfl⟩
theorem i_Cu_number_59 : am_I1 S_c M_Cu_number 59 1 (.i2l) (xN) := ⟨sys_c, ok_Cu_number, rfl⟩
theorem i_Cu_number_60 : am_I1 S_c M_Cu_number 60 1 (.lor) (xN) := ⟨sys_c, ok_Cu_number, rfl⟩
theorem i_Cu_number_61 : am_I1 S_c M_Cu_number 61 1 (.lstore_n 2) (xN) := ⟨sys_c, ok_Cu_number, rfl⟩
theorem i_Cu_number_62 : am_I1 S_c M_Cu_number 62 3 (.iinc 4 (-1)) (xI (-1)) := ⟨sys_c, ok_Cu_number, rfl⟩
theorem i_Cu_number_65 : am_I1 S_c M_Cu_number 65 3 (.goto (-31)) (xJ 34) := ⟨sys_c, ok_Cu_number, rfl⟩
theorem i_Cu_number_68 : am_I1 S_c M_Cu_number 68 1 (.aload_n 0) (xN) := ⟨sys_c, ok_Cu_number, rfl⟩
theorem i_Cu_number_69 : am_I1 S_c M_Cu_number 69 1 (.dup) (xN) := ⟨sys_c, ok_Cu_number, rfl⟩
theorem i_Cu_number_70 : am_I1 S_c M_Cu_number 70 3 (.getfield 15) (xF 2 1 0) := ⟨sys_c, ok_Cu_number, rfl⟩
theorem i_Cu_number_73 : am_I1 S_c M_Cu_number 73 1 (.iload_n 1) (xN) := ⟨sys_c, ok_Cu_number, rfl⟩
theorem i_Cu_number_74 : am_I1 S_c M_Cu_number 74 1 (.iadd) (xN) := ⟨sys_c, ok_Cu_number, rfl⟩
theorem i_Cu_number_75 : am_I1 S_c M_Cu_number 75 3 (.putfield 15) (xF 2 1 0) := ⟨sys_c, ok_Cu_number, rfl⟩
theorem i_Cu_number_78 : am_I1 S_c M_Cu_number 78 1 (.lload_n 2) (xN) := ⟨sys_c, ok_Cu_number, rfl⟩
end
section
/-! bytes and numbers -/
def by8 (f : Nat → Int32) (j : Nat) : Nat := (f j).toBitVec.toNat % 256
theorem by8_lt (f : Nat → Int32) (j : Nat) : by8 f j < 256 := Nat.mod_lt _ (by decide)
theorem by8_and (f : Nat → Int32) (j : Nat) : f j &&& 255 = nI (by8 f j) := pk_and (f j) 8 (by decide)
def num (f : Nat → Int32) : Nat → Nat → Nat
  | _, 0 => 0
  | p, m + 1 => by8 f p + 256 * num f (p + 1) m
theorem num_lt (f : Nat → Int32) : ∀ (m p : Nat), num f p m < 256 ^ m
  | 0, p => by simp [num]
  | m + 1, p => by
    have h1 := num_lt f m (p + 1)
    have h2 := by8_lt f p
    simp only [num]
    rw [Nat.pow_succ]
    omega
theorem pw8 {m : Nat} (h : m ≤ 8) : 256 ^ m ≤ 18446744073709551616 := by
  have := Nat.pow_le_pow_right (n := 256) (by decide) h
  exact Nat.le_trans this (by decide)
theorem num_64 {f : Nat → Int32} {p m : Nat} (h : m ≤ 8) : num f p m < 18446744073709551616 := Nat.lt_of_lt_of_le (num_lt f m p) (pw8 h)
theorem num_step {f : Nat → Int32} {p m : Nat} (h : m + 1 ≤ 8) : lN (num f (p + 1) m) <<< ((8 : Int32).toInt64 &&& 63) ||| (f p &&& 255).toInt64 = lN (num f p (m + 1)) := by
  have h1 := num_64 (f := f) (p := p + 1) (m := m) (by omega)
  have h2 := by8_lt f p
  have h3 := num_64 (f := f) (p := p) (m := m + 1) h
  rw [by8_and, nI_l (by omega), g_shl (k := 8) (p := 256) (by decide) (by decide) (by decide) (by simpa using h1)]
  simp only [num] at h3 ⊢
  rw [g_or (k := 8) (p := 256) (by decide) h2 (by simp; omega)]
  congr 1
  omega
/-! the cursors -/
def cu (k : Nat) : Prop := k < 65 ∧ sh_c k = .inr (2, [some (some 1), none, none, none])
def cu_ks : List am_K := [some (some 1), none, none, none]
def cu_b (j kind : Nat) : Bool := match cu_ks[j]? with
  | some kd => am_kk kd kind
  | none => false
theorem cu.has {k j kind : Nat} (h : cu k) (hb : cu_b j kind = true) : am_has (am_sh S_c) (am_nw S_c) k 2 j kind = true := by
  unfold am_has
  rw [show am_sh S_c k = .inr (2, cu_ks) from h.2, Bool.and_eq_true]
  refine ⟨decide_eq_true h.1, ?_⟩
  simp only [Bool.and_eq_true]
  exact ⟨rfl, hb⟩
theorem cu.im {k : Nat} (h : cu k) : am_rf (am_sh S_c) k 0 = 1 := by
  unfold am_rf
  rw [show am_sh S_c k = .inr (2, cu_ks) from h.2]
  rfl
theorem cu_set {k : Nat} {σ : am_S} {a b : Int32} (hk : cu k) : am_Mt S_c M_Cu_set [.ref k, .int a, .int b] σ (fun r σ' => r = none ∧ σ' = am_fi (am_fi (am_fi σ k 1 a) k 2 b) k 3 0) := by
  refine am_M_of ok_Cu_set (Nat.le_of_ble_eq_true rfl) ?_
  refine a_aload_n i_Cu_set_0 rfl ?_
  refine a_iload_n i_Cu_set_1 rfl ?_
  refine a_puti i_Cu_set_2 (hk.has rfl) trivial ?_
  refine a_aload_n i_Cu_set_5 rfl ?_
  refine a_iload_n i_Cu_set_6 rfl ?_
  refine a_puti i_Cu_set_7 (hk.has rfl) trivial ?_
  refine a_aload_n i_Cu_set_10 rfl ?_
  refine a_iconst i_Cu_set_11 ?_
  refine a_puti i_Cu_set_12 (hk.has rfl) (Or.inl rfl) ?_
  exact am_ret_v ok_Cu_set rfl rfl ⟨rfl, rfl⟩
def cu_nump (σ : am_S) (k p q m : Nat) (r : Option Value) (σ' : am_S) : Prop := (σ.1.1 k 3 = 0 ∧ p + m ≤ q → r = some (.long (lN (num (σ.2.1 1) p m))) ∧ σ' = am_fi σ k 1 (nI (p + m))) ∧ (¬ (σ.1.1 k 3 = 0 ∧ p + m ≤ q) → r = some (.long 0) ∧ σ' = am_fi σ k 3 1)
set_option maxHeartbeats 4000000 in
theorem cu_number {k p q m : Nat} {σ : am_S} (hk : cu k) (h1 : σ.1.1 k 1 = nI p) (h2 : σ.1.1 k 2 = nI q) (hpq : p ≤ q) (hq : q ≤ 3000) (hm : 1 ≤ m) (hm8 : m ≤ 8) : am_Mt S_c M_Cu_number [.ref k, .int (nI m)] σ (cu_nump σ k p q m) := by
  refine am_M_of ok_Cu_number (Nat.le_of_ble_eq_true rfl) ?_
  have him := hk.im
  by_cases hb : σ.1.1 k 3 = 0
  · by_cases hl : p + m ≤ q
    · refine a_aload_n i_Cu_number_0 rfl ?_
      refine a_get (v := .int (σ.1.1 k 3)) i_Cu_number_1 (hk.has rfl) rfl ?_
      refine a_iff i_Cu_number_4 hb ?_
      refine a_aload_n i_Cu_number_7 rfl ?_
      refine a_get (v := .int (σ.1.1 k 2)) i_Cu_number_8 (hk.has rfl) rfl ?_
      refine a_aload_n i_Cu_number_11 rfl ?_
      refine a_get (v := .int (σ.1.1 k 1)) i_Cu_number_12 (hk.has rfl) rfl ?_
      refine a_isub i_Cu_number_15 ?_
      refine a_iload_n i_Cu_number_16 rfl ?_
      refine a_ict i_Cu_number_17 (by show nI m ≤ σ.1.1 k 2 - σ.1.1 k 1; rw [h1, h2, pk_sub hpq]; exact nI_le (by omega) (by omega)) ?_
      refine a_lconst i_Cu_number_27 ?_
      refine a_lstore_n i_Cu_number_28 rfl ?_
      refine a_iload_n i_Cu_number_29 rfl ?_
      refine a_iconst i_Cu_number_30 ?_
      refine a_isub i_Cu_number_31 ?_
      refine a_istore i_Cu_number_32 rfl ?_
      have key : ∀ i, i ≤ m → am_A S_c M_Cu_number (34, [some (.ref k), some (.int (nI m)), some (.long (lN (num (σ.2.1 1) (p + i) (m - i)))), none, some (.int (nI i + (-1)))], [], σ) (am_r S_c (cu_nump σ k p q m)) := by
        intro i
        induction i with
        | zero =>
          intro _
          refine a_iload i_Cu_number_34 rfl ?_
          refine a_ift i_Cu_number_36 (by show nI 0 + (-1) < 0; decide) ?_
          refine a_aload_n i_Cu_number_68 rfl ?_
          refine a_dup_a i_Cu_number_69 ?_
          refine a_get (v := .int (σ.1.1 k 1)) i_Cu_number_70 (hk.has rfl) rfl ?_
          refine a_iload_n i_Cu_number_73 rfl ?_
          refine a_iadd i_Cu_number_74 ?_
          refine a_puti i_Cu_number_75 (hk.has rfl) trivial ?_
          refine a_lload_n i_Cu_number_78 rfl ?_
          rw [h1, nI_add, Nat.add_zero, Nat.sub_zero]
          exact am_ret_l ok_Cu_number rfl rfl ⟨fun _ => ⟨rfl, rfl⟩, fun h => absurd ⟨hb, hl⟩ h⟩
        | succ i ih =>
          intro hi
          have e : nI (i + 1) + (-1) = nI i := pk_m1 i
          rw [e]
          refine a_iload i_Cu_number_34 rfl ?_
          refine a_iff i_Cu_number_36 (nI_pos (by omega)) ?_
          refine a_lload_n i_Cu_number_39 rfl ?_
          refine a_bipush i_Cu_number_40 ?_
          refine a_lshl i_Cu_number_42 ?_
          refine a_aload_n i_Cu_number_43 rfl ?_
          refine a_get (v := .ref (am_rf (am_sh S_c) k 0)) i_Cu_number_44 (hk.has rfl) rfl ?_
          refine a_aload_n i_Cu_number_47 rfl ?_
          refine a_get (v := .int (σ.1.1 k 1)) i_Cu_number_48 (hk.has rfl) rfl ?_
          refine a_iload i_Cu_number_51 rfl ?_
          refine a_iadd i_Cu_number_53 ?_
          refine a_bal (n := 3000) i_Cu_number_54 (by rw [him]; rfl) (by rw [him]; rfl) (by rw [h1, nI_add]; exact vp_in_nI (by omega) (by decide)) ?_
          refine a_sipush i_Cu_number_55 ?_
          refine a_iand i_Cu_number_58 ?_
          refine a_i2l i_Cu_number_59 ?_
          refine a_lor i_Cu_number_60 ?_
          refine a_lstore_n i_Cu_number_61 rfl ?_
          refine a_iinc i_Cu_number_62 rfl rfl ?_
          refine a_goto i_Cu_number_65 ?_
          rw [him, h1, nI_add, nI_clamp (by omega), show p + (i + 1) = p + i + 1 by omega, num_step (by omega), show m - (i + 1) + 1 = m - i by omega]
          exact ih (by omega)
      have h0 := key m (Nat.le_refl _)
      rw [Nat.sub_self] at h0
      rw [Int32.sub_eq_add_neg]
      exact h0
    · refine a_aload_n i_Cu_number_0 rfl ?_
      refine a_get (v := .int (σ.1.1 k 3)) i_Cu_number_1 (hk.has rfl) rfl ?_
      refine a_iff i_Cu_number_4 hb ?_
      refine a_aload_n i_Cu_number_7 rfl ?_
      refine a_get (v := .int (σ.1.1 k 2)) i_Cu_number_8 (hk.has rfl) rfl ?_
      refine a_aload_n i_Cu_number_11 rfl ?_
      refine a_get (v := .int (σ.1.1 k 1)) i_Cu_number_12 (hk.has rfl) rfl ?_
      refine a_isub i_Cu_number_15 ?_
      refine a_iload_n i_Cu_number_16 rfl ?_
      refine a_icf i_Cu_number_17 (by show ¬ nI m ≤ σ.1.1 k 2 - σ.1.1 k 1; rw [h1, h2, pk_sub hpq]; exact nI_ge (by omega) (by omega)) ?_
      refine a_aload_n i_Cu_number_20 rfl ?_
      refine a_iconst i_Cu_number_21 ?_
      refine a_puti i_Cu_number_22 (hk.has rfl) (Or.inr rfl) ?_
      refine a_lconst i_Cu_number_25 ?_
      exact am_ret_l ok_Cu_number rfl rfl ⟨fun h => absurd h.2 hl, fun _ => ⟨rfl, rfl⟩⟩
  · refine a_aload_n i_Cu_number_0 rfl ?_
    refine a_get (v := .int (σ.1.1 k 3)) i_Cu_number_1 (hk.has rfl) rfl ?_
    refine a_ift i_Cu_number_4 hb ?_
    refine a_aload_n i_Cu_number_20 rfl ?_
    refine a_iconst i_Cu_number_21 ?_
    refine a_puti i_Cu_number_22 (hk.has rfl) (Or.inr rfl) ?_
    refine a_lconst i_Cu_number_25 ?_
    exact am_ret_l ok_Cu_number rfl rfl ⟨fun h => absurd h.1 hb, fun _ => ⟨rfl, rfl⟩⟩
end
section
theorem i_F_load_0 : am_I1 S_c M_F_load 0 1 (.iload_n 1) (xN) := ⟨sys_c, ok_F_load, rfl⟩
theorem i_F_load_1 : am_I1 S_c M_F_load 1 1 (.iconst 1) (xI (1)) := ⟨sys_c, ok_F_load, rfl⟩
theorem i_F_load_2 : am_I1 S_c M_F_load 2 3 (.if_icmp .lt (21)) (xJ 23) := ⟨sys_c, ok_F_load, rfl⟩
theorem i_F_load_5 : am_I1 S_c M_F_load 5 1 (.iload_n 1) (xN) := ⟨sys_c, ok_F_load, rfl⟩
theorem i_F_load_6 : am_I1 S_c M_F_load 6 2 (.bipush 8) (xI (8)) := ⟨sys_c, ok_F_load, rfl⟩
theorem i_F_load_8 : am_I1 S_c M_F_load 8 3 (.if_icmp .gt (15)) (xJ 23) := ⟨sys_c, ok_F_load, rfl⟩
theorem i_F_load_11 : am_I1 S_c M_F_load 11 1 (.iload_n 1) (xN) := ⟨sys_c, ok_F_load, rfl⟩
theorem i_F_load_12 : am_I1 S_c M_F_load 12 3 (.sipush 3000) (xI (3000)) := ⟨sys_c, ok_F_load, rfl⟩
theorem i_F_load_15 : am_I1 S_c M_F_load 15 1 (.aload_n 0) (xN) := ⟨sys_c, ok_F_load, rfl⟩
theorem i_F_load_16 : am_I1 S_c M_F_load 16 3 (.getfield 88) (xF 0 10 0) := ⟨sys_c, ok_F_load, rfl⟩
theorem i_F_load_19 : am_I1 S_c M_F_load 19 1 (.isub) (xN) := ⟨sys_c, ok_F_load, rfl⟩
theorem i_F_load_20 : am_I1 S_c M_F_load 20 3 (.if_icmp .le (5)) (xJ 25) := ⟨sys_c, ok_F_load, rfl⟩
theorem i_F_load_23 : am_I1 S_c M_F_load 23 1 (.iconst 0) (xI (0)) := ⟨sys_c, ok_F_load, rfl⟩
theorem i_F_load_25 : am_I1 S_c M_F_load 25 1 (.iconst 0) (xI (0)) := ⟨sys_c, ok_F_load, rfl⟩
theorem i_F_load_26 : am_I1 S_c M_F_load 26 2 (.istore 4) (xN) := ⟨sys_c, ok_F_load, rfl⟩
theorem i_F_load_28 : am_I1 S_c M_F_load 28 2 (.iload 4) (xN) := ⟨sys_c, ok_F_load, rfl⟩
theorem i_F_load_30 : am_I1 S_c M_F_load 30 1 (.iload_n 1) (xN) := ⟨sys_c, ok_F_load, rfl⟩
theorem i_F_load_31 : am_I1 S_c M_F_load 31 3 (.if_icmp .ge (30)) (xJ 61) := ⟨sys_c, ok_F_load, rfl⟩
theorem i_F_load_34 : am_I1 S_c M_F_load 34 1 (.aload_n 0) (xN) := ⟨sys_c, ok_F_load, rfl⟩
theorem i_F_load_35 : am_I1 S_c M_F_load 35 3 (.getfield 9) (xF 0 0 2) := ⟨sys_c, ok_F_load, rfl⟩
theorem i_F_load_38 : am_I1 S_c M_F_load 38 1 (.aload_n 0) (xN) := ⟨sys_c, ok_F_load, rfl⟩
theorem i_F_load_39 : am_I1 S_c M_F_load 39 3 (.getfield 88) (xF 0 10 0) := ⟨sys_c, ok_F_load, rfl⟩
theorem i_F_load_42 : am_I1 S_c M_F_load 42 2 (.iload 4) (xN) := ⟨sys_c, ok_F_load, rfl⟩
theorem i_F_load_44 : am_I1 S_c M_F_load 44 1 (.iadd) (xN) := ⟨sys_c, ok_F_load, rfl⟩
theorem i_F_load_45 : am_I1 S_c M_F_load 45 1 (.lload_n 2) (xN) := ⟨sys_c, ok_F_load, rfl⟩
theorem i_F_load_46 : am_I1 S_c M_F_load 46 2 (.bipush 8) (xI (8)) := ⟨sys_c, ok_F_load, rfl⟩
theorem i_F_load_48 : am_I1 S_c M_F_load 48 2 (.iload 4) (xN) := ⟨sys_c, ok_F_load, rfl⟩
theorem i_F_load_50 : am_I1 S_c M_F_load 50 1 (.imul) (xN) := ⟨sys_c, ok_F_load, rfl⟩
theorem i_F_load_51 : am_I1 S_c M_F_load 51 1 (.lushr) (xN) := ⟨sys_c, ok_F_load, rfl⟩
theorem i_F_load_52 : am_I1 S_c M_F_load 52 1 (.l2i) (xN) := ⟨sys_c, ok_F_load, rfl⟩
theorem i_F_load_53 : am_I1 S_c M_F_load 53 1 (.i2b) (xN) := ⟨sys_c, ok_F_load, rfl⟩
theorem i_F_load_54 : am_I1 S_c M_F_load 54 1 (.bastore) (xJ 2) := ⟨sys_c, ok_F_load, rfl⟩
theorem i_F_load_55 : am_I1 S_c M_F_load 55 3 (.iinc 4 (1)) (xI (1)) := ⟨sys_c, ok_F_load, rfl⟩
theorem i_F_load_58 : am_I1 S_c M_F_load 58 3 (.goto (-30)) (xJ 28) := ⟨sys_c, ok_F_load, rfl⟩
theorem i_F_load_61 : am_I1 S_c M_F_load 61 1 (.aload_n 0) (xN) := ⟨sys_c, ok_F_load, rfl⟩
theorem i_F_load_62 : am_I1 S_c M_F_load 62 1 (.dup) (xN) := ⟨sys_c, ok_F_load, rfl⟩
theorem i_F_load_63 : am_I1 S_c M_F_load 63 3 (.getfield 88) (xF 0 10 0) := ⟨sys_c, ok_F_load, rfl⟩
theorem i_F_load_66 : am_I1 S_c M_F_load 66 1 (.iload_n 1) (xN) := ⟨sys_c, ok_F_load, rfl⟩
theorem i_F_load_67 : am_I1 S_c M_F_load 67 1 (.iadd) (xN) := ⟨sys_c, ok_F_load, rfl⟩
theorem i_F_load_68 : am_I1 S_c M_F_load 68 3 (.putfield 88) (xF 0 10 0) := ⟨sys_c, ok_F_load, rfl⟩
theorem i_F_load_71 : am_I1 S_c M_F_load 71 1 (.aload_n 0) (xN) := ⟨sys_c, ok_F_load, rfl⟩
theorem i_F_load_75 : am_I1 S_c M_F_load 75 1 (.iconst 1) (xI (1)) := ⟨sys_c, ok_F_load, rfl⟩
theorem i_F_clear_0 : am_I1 S_c M_F_clear 0 1 (.aload_n 0) (xN) := ⟨sys_c, ok_F_clear, rfl⟩
theorem i_F_clear_1 : am_I1 S_c M_F_clear 1 1 (.iconst 0) (xI (0)) := ⟨sys_c, ok_F_clear, rfl⟩
theorem i_F_clear_2 : am_I1 S_c M_F_clear 2 3 (.putfield 88) (xF 0 10 0) := ⟨sys_c, ok_F_clear, rfl⟩
theorem i_F_clear_5 : am_I1 S_c M_F_clear 5 1 (.aload_n 0) (xN) := ⟨sys_c, ok_F_clear, rfl⟩
theorem i_F_fault_0 : am_I1 S_c M_F_fault 0 1 (.aload_n 0) (xN) := ⟨sys_c, ok_F_fault, rfl⟩
theorem i_F_fault_1 : am_I1 S_c M_F_fault 1 3 (.getfield 95) (xF 0 12 0) := ⟨sys_c, ok_F_fault, rfl⟩
theorem i_F_count_0 : am_I1 S_c M_F_count 0 1 (.aload_n 0) (xN) := ⟨sys_c, ok_F_count, rfl⟩
theorem i_F_count_1 : am_I1 S_c M_F_count 1 3 (.getfield 111) (xF 0 11 3) := ⟨sys_c, ok_F_count, rfl⟩
theorem i_F_count_4 : am_I1 S_c M_F_count 4 3 (.ifCond .ne (5)) (xJ 9) := ⟨sys_c, ok_F_count, rfl⟩
theorem i_F_count_7 : am_I1 S_c M_F_count 7 1 (.iconst (-1)) (xI (-1)) := ⟨sys_c, ok_F_count, rfl⟩
theorem i_F_count_9 : am_I1 S_c M_F_count 9 1 (.iload_n 1) (xN) := ⟨sys_c, ok_F_count, rfl⟩
theorem i_F_count_10 : am_I1 S_c M_F_count 10 38 (.tableswitch (86) (0) (5) #[38, 46, 54, 62, 70, 78]) (xN) := ⟨sys_c, ok_F_count, rfl⟩
theorem i_F_count_48 : am_I1 S_c M_F_count 48 1 (.aload_n 0) (xN) := ⟨sys_c, ok_F_count, rfl⟩
theorem i_F_count_49 : am_I1 S_c M_F_count 49 3 (.getfield 18) (xF 0 1 2) := ⟨sys_c, ok_F_count, rfl⟩
theorem i_F_count_52 : am_I1 S_c M_F_count 52 3 (.getfield 118) (xF 1 8 0) := ⟨sys_c, ok_F_count, rfl⟩
theorem i_F_count_56 : am_I1 S_c M_F_count 56 1 (.aload_n 0) (xN) := ⟨sys_c, ok_F_count, rfl⟩
theorem i_F_count_57 : am_I1 S_c M_F_count 57 3 (.getfield 25) (xF 0 2 2) := ⟨sys_c, ok_F_count, rfl⟩
theorem i_F_count_60 : am_I1 S_c M_F_count 60 3 (.getfield 119) (xF 3 11 0) := ⟨sys_c, ok_F_count, rfl⟩
theorem i_F_count_64 : am_I1 S_c M_F_count 64 1 (.aload_n 0) (xN) := ⟨sys_c, ok_F_count, rfl⟩
theorem i_F_count_65 : am_I1 S_c M_F_count 65 3 (.getfield 25) (xF 0 2 2) := ⟨sys_c, ok_F_count, rfl⟩
theorem i_F_count_68 : am_I1 S_c M_F_count 68 3 (.getfield 115) (xF 3 10 0) := ⟨sys_c, ok_F_count, rfl⟩
theorem i_F_count_72 : am_I1 S_c M_F_count 72 1 (.aload_n 0) (xN) := ⟨sys_c, ok_F_count, rfl⟩
theorem i_F_count_73 : am_I1 S_c M_F_count 73 3 (.getfield 41) (xF 0 4 2) := ⟨sys_c, ok_F_count, rfl⟩
theorem i_F_count_76 : am_I1 S_c M_F_count 76 3 (.getfield 122) (xF 6 4 0) := ⟨sys_c, ok_F_count, rfl⟩
theorem i_F_count_80 : am_I1 S_c M_F_count 80 1 (.aload_n 0) (xN) := ⟨sys_c, ok_F_count, rfl⟩
theorem i_F_count_81 : am_I1 S_c M_F_count 81 3 (.getfield 57) (xF 0 6 2) := ⟨sys_c, ok_F_count, rfl⟩
theorem i_F_count_84 : am_I1 S_c M_F_count 84 3 (.getfield 123) (xF 8 8 0) := ⟨sys_c, ok_F_count, rfl⟩
theorem i_F_count_88 : am_I1 S_c M_F_count 88 1 (.aload_n 0) (xN) := ⟨sys_c, ok_F_count, rfl⟩
theorem i_F_count_89 : am_I1 S_c M_F_count 89 3 (.getfield 75) (xF 0 8 2) := ⟨sys_c, ok_F_count, rfl⟩
theorem i_F_count_92 : am_I1 S_c M_F_count 92 3 (.getfield 124) (xF 10 6 0) := ⟨sys_c, ok_F_count, rfl⟩
theorem i_F_count_96 : am_I1 S_c M_F_count 96 1 (.iconst (-1)) (xI (-1)) := ⟨sys_c, ok_F_count, rfl⟩
theorem i_F_forget_0 : am_I1 S_c M_F_forget 0 1 (.aload_n 0) (xN) := ⟨sys_c, ok_F_forget, rfl⟩
theorem i_F_forget_1 : am_I1 S_c M_F_forget 1 1 (.iconst 0) (xI (0)) := ⟨sys_c, ok_F_forget, rfl⟩
theorem i_F_forget_2 : am_I1 S_c M_F_forget 2 3 (.putfield 111) (xF 0 11 3) := ⟨sys_c, ok_F_forget, rfl⟩
theorem i_F_forget_5 : am_I1 S_c M_F_forget 5 1 (.aload_n 0) (xN) := ⟨sys_c, ok_F_forget, rfl⟩
theorem i_F_forget_6 : am_I1 S_c M_F_forget 6 3 (.getfield 84) (xF 0 9 2) := ⟨sys_c, ok_F_forget, rfl⟩
theorem i_F_forget_9 : am_I1 S_c M_F_forget 9 1 (.iconst 0) (xI (0)) := ⟨sys_c, ok_F_forget, rfl⟩
theorem i_F_forget_10 : am_I1 S_c M_F_forget 10 3 (.putfield 155) (xF 11 11 0) := ⟨sys_c, ok_F_forget, rfl⟩
theorem i_Fr_has_0 : am_I1 S_c M_Fr_has 0 1 (.iload_n 1) (xN) := ⟨sys_c, ok_Fr_has, rfl⟩
theorem i_Fr_has_1 : am_I1 S_c M_Fr_has 1 3 (.ifCond .lt (15)) (xJ 16) := ⟨sys_c, ok_Fr_has, rfl⟩
theorem i_Fr_has_4 : am_I1 S_c M_Fr_has 4 1 (.iload_n 1) (xN) := ⟨sys_c, ok_Fr_has, rfl⟩
theorem i_Fr_has_5 : am_I1 S_c M_Fr_has 5 1 (.aload_n 0) (xN) := ⟨sys_c, ok_Fr_has, rfl⟩
theorem i_Fr_has_6 : am_I1 S_c M_Fr_has 6 3 (.getfield 50) (xF 11 11 0) := ⟨sys_c, ok_Fr_has, rfl⟩
theorem i_Fr_has_9 : am_I1 S_c M_Fr_has 9 3 (.if_icmp .ge (7)) (xJ 16) := ⟨sys_c, ok_Fr_has, rfl⟩
theorem i_Fr_has_12 : am_I1 S_c M_Fr_has 12 1 (.iconst 1) (xI (1)) := ⟨sys_c, ok_Fr_has, rfl⟩
theorem i_Fr_has_13 : am_I1 S_c M_Fr_has 13 3 (.goto (4)) (xJ 17) := ⟨sys_c, ok_Fr_has, rfl⟩
theorem i_Fr_has_16 : am_I1 S_c M_Fr_has 16 1 (.iconst 0) (xI (0)) := ⟨sys_c, ok_Fr_has, rfl⟩
theorem c_F_clear_6 : am_V S_c M_F_clear M_F_forget 6 0 0 := am_V_of (tl := lw_tbl) (idx := 92) (nest := false) (h1 := 624) (h2 := 627) (h3 := 114) (h4 := 626) (h5 := 0) sys_c ok_F_clear ht_c hn_c rfl (by decide +kernel) (by decide +kernel)
theorem c_F_load_72 : am_V S_c M_F_load M_F_forget 72 0 0 := am_V_of (tl := lw_tbl) (idx := 92) (nest := false) (h1 := 624) (h2 := 627) (h3 := 114) (h4 := 626) (h5 := 0) sys_c ok_F_load ht_c hn_c rfl (by decide +kernel) (by decide +kernel)
end
section
/-! FrameFinder: forget, clear, fault, count, load; has -/
def fgC (σ : am_S) : am_S := am_fi (am_fi σ 0 11 0) 58 11 0
theorem f_forget {σ : am_S} : am_Mt S_c M_F_forget [.ref 0] σ (fun r σ' => r = none ∧ σ' = fgC σ) := by
  refine am_M_of ok_F_forget (Nat.le_of_ble_eq_true rfl) ?_
  refine a_aload_n i_F_forget_0 rfl ?_
  refine a_iconst i_F_forget_1 ?_
  refine a_puti i_F_forget_2 rfl (Or.inl rfl) ?_
  refine a_aload_n i_F_forget_5 rfl ?_
  refine a_get (v := .ref 58) i_F_forget_6 rfl rfl ?_
  refine a_iconst i_F_forget_9 ?_
  refine a_puti i_F_forget_10 rfl trivial ?_
  exact am_ret_v ok_F_forget rfl rfl ⟨rfl, rfl⟩
theorem f_clear {σ : am_S} : am_Mt S_c M_F_clear [.ref 0] σ (fun r σ' => r = none ∧ σ' = fgC (am_fi σ 0 10 0)) := by
  refine am_M_of ok_F_clear (Nat.le_of_ble_eq_true rfl) ?_
  refine a_aload_n i_F_clear_0 rfl ?_
  refine a_iconst i_F_clear_1 ?_
  refine a_puti i_F_clear_2 rfl trivial ?_
  refine a_aload_n i_F_clear_5 rfl ?_
  refine am_cv (rest := []) [] c_F_clear_6 ⟨by decide, _, rfl⟩ rfl (Nat.le_of_ble_eq_true rfl) (f_forget) (fun r9 σ9 h9 => ?_)
  obtain ⟨rfl, rfl⟩ := h9
  exact am_ret_v ok_F_clear rfl rfl ⟨rfl, rfl⟩
theorem f_fault {σ : am_S} : am_Mt S_c M_F_fault [.ref 0] σ (fun r σ' => r = some (.int (σ.1.1 0 12)) ∧ σ' = σ) := by
  refine am_M_of ok_F_fault (Nat.le_of_ble_eq_true rfl) ?_
  refine a_aload_n i_F_fault_0 rfl ?_
  refine a_get (v := .int (σ.1.1 0 12)) i_F_fault_1 rfl rfl ?_
  exact am_ret_i ok_F_fault rfl rfl ⟨rfl, rfl⟩
def hasC (σ : am_S) (i : Int32) : Int32 := if 0 ≤ i ∧ i < σ.1.1 58 11 then 1 else 0
theorem fr_has {σ : am_S} {i : Int32} : am_Mt S_c M_Fr_has [.ref 58, .int i] σ (fun r σ' => r = some (.int (hasC σ i)) ∧ σ' = σ) := by
  refine am_M_of ok_Fr_has (Nat.le_of_ble_eq_true rfl) ?_
  by_cases h0 : i < 0
  · refine a_iload_n i_Fr_has_0 rfl ?_
    refine a_ift i_Fr_has_1 h0 ?_
    refine a_iconst i_Fr_has_16 ?_
    refine am_ret_z ok_Fr_has rfl rfl (Or.inl rfl) ⟨?_, rfl⟩
    have h1 : ¬ (0 ≤ i ∧ i < σ.1.1 58 11) := fun h => absurd h.1 (by rw [Int32.not_le]; exact h0)
    rw [hasC, if_neg h1]
  · by_cases h1 : i < σ.1.1 58 11
    · refine a_iload_n i_Fr_has_0 rfl ?_
      refine a_iff i_Fr_has_1 h0 ?_
      refine a_iload_n i_Fr_has_4 rfl ?_
      refine a_aload_n i_Fr_has_5 rfl ?_
      refine a_get (v := .int (σ.1.1 58 11)) i_Fr_has_6 rfl rfl ?_
      refine a_icf i_Fr_has_9 (by show ¬ σ.1.1 58 11 ≤ i; rw [Int32.not_le]; exact h1) ?_
      refine a_iconst i_Fr_has_12 ?_
      refine a_goto i_Fr_has_13 ?_
      refine am_ret_z ok_Fr_has rfl rfl (Or.inr rfl) ⟨?_, rfl⟩
      rw [hasC, if_pos ⟨Int32.not_lt.mp h0, h1⟩]
    · refine a_iload_n i_Fr_has_0 rfl ?_
      refine a_iff i_Fr_has_1 h0 ?_
      refine a_iload_n i_Fr_has_4 rfl ?_
      refine a_aload_n i_Fr_has_5 rfl ?_
      refine a_get (v := .int (σ.1.1 58 11)) i_Fr_has_6 rfl rfl ?_
      refine a_ict i_Fr_has_9 (Int32.not_lt.mp h1) ?_
      refine a_iconst i_Fr_has_16 ?_
      refine am_ret_z ok_Fr_has rfl rfl (Or.inl rfl) ⟨?_, rfl⟩
      rw [hasC, if_neg (fun h => h1 h.2)]
def cntC (σ : am_S) (q : Int32) : Int32 := if σ.1.1 0 11 = 0 then -1 else if q = 0 then σ.1.1 2 8 else if q = 1 then σ.1.1 10 11 else if q = 2 then σ.1.1 10 10 else if q = 3 then σ.1.1 32 4 else if q = 4 then σ.1.1 40 8 else if q = 5 then σ.1.1 52 6 else -1
theorem f_count {σ : am_S} {q : Int32} : am_Mt S_c M_F_count [.ref 0, .int q] σ (fun r σ' => r = some (.int (cntC σ q)) ∧ σ' = σ) := by
  refine am_M_of ok_F_count (Nat.le_of_ble_eq_true rfl) ?_
  by_cases h0 : σ.1.1 0 11 = 0
  · refine a_aload_n i_F_count_0 rfl ?_
    refine a_get (v := .int (σ.1.1 0 11)) i_F_count_1 rfl rfl ?_
    refine a_iff i_F_count_4 h0 ?_
    refine a_iconst i_F_count_7 ?_
    exact am_ret_i ok_F_count rfl rfl ⟨by rw [cntC, if_pos h0], rfl⟩
  · by_cases e0 : q = 0
    · subst e0
      refine a_aload_n i_F_count_0 rfl ?_
      refine a_get (v := .int (σ.1.1 0 11)) i_F_count_1 rfl rfl ?_
      refine a_ift i_F_count_4 h0 ?_
      refine a_iload_n i_F_count_9 rfl ?_
      refine a_tab 0 i_F_count_10 rfl (by decide) (by decide) rfl ?_
      refine a_aload_n i_F_count_48 rfl ?_
      refine a_get (v := .ref 2) i_F_count_49 rfl rfl ?_
      refine a_get (v := .int (σ.1.1 2 8)) i_F_count_52 rfl rfl ?_
      refine am_ret_i ok_F_count rfl rfl ⟨?_, rfl⟩
      simp [cntC, h0]
    · by_cases e1 : q = 1
      · subst e1
        refine a_aload_n i_F_count_0 rfl ?_
        refine a_get (v := .int (σ.1.1 0 11)) i_F_count_1 rfl rfl ?_
        refine a_ift i_F_count_4 h0 ?_
        refine a_iload_n i_F_count_9 rfl ?_
        refine a_tab 1 i_F_count_10 rfl (by decide) (by decide) rfl ?_
        refine a_aload_n i_F_count_56 rfl ?_
        refine a_get (v := .ref 10) i_F_count_57 rfl rfl ?_
        refine a_get (v := .int (σ.1.1 10 11)) i_F_count_60 rfl rfl ?_
        refine am_ret_i ok_F_count rfl rfl ⟨?_, rfl⟩
        simp [cntC, h0]
      · by_cases e2 : q = 2
        · subst e2
          refine a_aload_n i_F_count_0 rfl ?_
          refine a_get (v := .int (σ.1.1 0 11)) i_F_count_1 rfl rfl ?_
          refine a_ift i_F_count_4 h0 ?_
          refine a_iload_n i_F_count_9 rfl ?_
          refine a_tab 2 i_F_count_10 rfl (by decide) (by decide) rfl ?_
          refine a_aload_n i_F_count_64 rfl ?_
          refine a_get (v := .ref 10) i_F_count_65 rfl rfl ?_
          refine a_get (v := .int (σ.1.1 10 10)) i_F_count_68 rfl rfl ?_
          refine am_ret_i ok_F_count rfl rfl ⟨?_, rfl⟩
          simp [cntC, h0]
        · by_cases e3 : q = 3
          · subst e3
            refine a_aload_n i_F_count_0 rfl ?_
            refine a_get (v := .int (σ.1.1 0 11)) i_F_count_1 rfl rfl ?_
            refine a_ift i_F_count_4 h0 ?_
            refine a_iload_n i_F_count_9 rfl ?_
            refine a_tab 3 i_F_count_10 rfl (by decide) (by decide) rfl ?_
            refine a_aload_n i_F_count_72 rfl ?_
            refine a_get (v := .ref 32) i_F_count_73 rfl rfl ?_
            refine a_get (v := .int (σ.1.1 32 4)) i_F_count_76 rfl rfl ?_
            refine am_ret_i ok_F_count rfl rfl ⟨?_, rfl⟩
            simp [cntC, h0]
          · by_cases e4 : q = 4
            · subst e4
              refine a_aload_n i_F_count_0 rfl ?_
              refine a_get (v := .int (σ.1.1 0 11)) i_F_count_1 rfl rfl ?_
              refine a_ift i_F_count_4 h0 ?_
              refine a_iload_n i_F_count_9 rfl ?_
              refine a_tab 4 i_F_count_10 rfl (by decide) (by decide) rfl ?_
              refine a_aload_n i_F_count_80 rfl ?_
              refine a_get (v := .ref 40) i_F_count_81 rfl rfl ?_
              refine a_get (v := .int (σ.1.1 40 8)) i_F_count_84 rfl rfl ?_
              refine am_ret_i ok_F_count rfl rfl ⟨?_, rfl⟩
              simp [cntC, h0]
            · by_cases e5 : q = 5
              · subst e5
                refine a_aload_n i_F_count_0 rfl ?_
                refine a_get (v := .int (σ.1.1 0 11)) i_F_count_1 rfl rfl ?_
                refine a_ift i_F_count_4 h0 ?_
                refine a_iload_n i_F_count_9 rfl ?_
                refine a_tab 5 i_F_count_10 rfl (by decide) (by decide) rfl ?_
                refine a_aload_n i_F_count_88 rfl ?_
                refine a_get (v := .ref 52) i_F_count_89 rfl rfl ?_
                refine a_get (v := .int (σ.1.1 52 6)) i_F_count_92 rfl rfl ?_
                refine am_ret_i ok_F_count rfl rfl ⟨?_, rfl⟩
                simp [cntC, h0]
              · have hd : q.toInt < 0 ∨ 5 < q.toInt := by
                  have f0 : q.toInt ≠ 0 := lv_neT e0 rfl
                  have f1 : q.toInt ≠ 1 := lv_neT e1 rfl
                  have f2 : q.toInt ≠ 2 := lv_neT e2 rfl
                  have f3 : q.toInt ≠ 3 := lv_neT e3 rfl
                  have f4 : q.toInt ≠ 4 := lv_neT e4 rfl
                  have f5 : q.toInt ≠ 5 := lv_neT e5 rfl
                  omega
                refine a_aload_n i_F_count_0 rfl ?_
                refine a_get (v := .int (σ.1.1 0 11)) i_F_count_1 rfl rfl ?_
                refine a_ift i_F_count_4 h0 ?_
                refine a_iload_n i_F_count_9 rfl ?_
                refine a_tabd i_F_count_10 hd rfl ?_
                refine a_iconst i_F_count_96 ?_
                refine am_ret_i ok_F_count rfl rfl ⟨?_, rfl⟩
                simp [cntC, h0, e0, e1, e2, e3, e4, e5]
def bC (x : Int64) (i : Nat) : Int32 := vp_nar .byte (((x.toUInt64 >>> ((8 * nI i).toInt64.toUInt64 &&& Int64.toUInt64 63)).toInt64).toInt32.toInt8.toInt32)
def ldC (σ : am_S) (x : Int64) (len : Nat) : Nat → am_S
  | 0 => σ
  | i + 1 => am_ai (ldC σ x len i) 1 (len + i) (bC x i)
theorem ldC_1 (σ : am_S) (x : Int64) (len : Nat) : ∀ i, (ldC σ x len i).1 = σ.1
  | 0 => rfl
  | i + 1 => ldC_1 σ x len i
theorem f_load_no {σ : am_S} {n : Int32} {x : Int64} (h : n < 1 ∨ 8 < n ∨ 3000 - σ.1.1 0 10 < n) : am_Mt S_c M_F_load [.ref 0, .int n, .long x] σ (fun r σ' => r = some (.int 0) ∧ σ' = σ) := by
  refine am_M_of ok_F_load (Nat.le_of_ble_eq_true rfl) ?_
  by_cases h1 : n < 1
  · refine a_iload_n i_F_load_0 rfl ?_
    refine a_iconst i_F_load_1 ?_
    refine a_ict i_F_load_2 h1 ?_
    refine a_iconst i_F_load_23 ?_
    exact am_ret_z ok_F_load rfl rfl (Or.inl rfl) ⟨rfl, rfl⟩
  · by_cases h2 : 8 < n
    · refine a_iload_n i_F_load_0 rfl ?_
      refine a_iconst i_F_load_1 ?_
      refine a_icf i_F_load_2 h1 ?_
      refine a_iload_n i_F_load_5 rfl ?_
      refine a_bipush i_F_load_6 ?_
      refine a_ict i_F_load_8 h2 ?_
      refine a_iconst i_F_load_23 ?_
      exact am_ret_z ok_F_load rfl rfl (Or.inl rfl) ⟨rfl, rfl⟩
    · refine a_iload_n i_F_load_0 rfl ?_
      refine a_iconst i_F_load_1 ?_
      refine a_icf i_F_load_2 h1 ?_
      refine a_iload_n i_F_load_5 rfl ?_
      refine a_bipush i_F_load_6 ?_
      refine a_icf i_F_load_8 h2 ?_
      refine a_iload_n i_F_load_11 rfl ?_
      refine a_sipush i_F_load_12 ?_
      refine a_aload_n i_F_load_15 rfl ?_
      refine a_get (v := .int (σ.1.1 0 10)) i_F_load_16 rfl rfl ?_
      refine a_isub i_F_load_19 ?_
      refine a_icf i_F_load_20 (by show ¬ n ≤ 3000 - σ.1.1 0 10; rw [Int32.not_le]; exact (h.resolve_left h1).resolve_left h2) ?_
      refine a_iconst i_F_load_23 ?_
      exact am_ret_z ok_F_load rfl rfl (Or.inl rfl) ⟨rfl, rfl⟩
theorem f_load {σ : am_S} {m len : Nat} {x : Int64} (hl : σ.1.1 0 10 = nI len) (h1 : 1 ≤ m) (h8 : m ≤ 8) (h3 : len + m ≤ 3000) : am_Mt S_c M_F_load [.ref 0, .int (nI m), .long x] σ (fun r σ' => r = some (.int 1) ∧ σ' = fgC (am_fi (ldC σ x len m) 0 10 (nI (len + m)))) := by
  refine am_M_of ok_F_load (Nat.le_of_ble_eq_true rfl) ?_
  refine a_iload_n i_F_load_0 rfl ?_
  refine a_iconst i_F_load_1 ?_
  refine a_icf i_F_load_2 (nI_nlt (a := m) (b := 1) h1 (by omega)) ?_
  refine a_iload_n i_F_load_5 rfl ?_
  refine a_bipush i_F_load_6 ?_
  refine a_icf i_F_load_8 (nI_nlt (a := 8) (b := m) h8 (by decide)) ?_
  refine a_iload_n i_F_load_11 rfl ?_
  refine a_sipush i_F_load_12 ?_
  refine a_aload_n i_F_load_15 rfl ?_
  refine a_get (v := .int (σ.1.1 0 10)) i_F_load_16 rfl rfl ?_
  refine a_isub i_F_load_19 ?_
  refine a_ict i_F_load_20 (by show nI m ≤ nI 3000 - σ.1.1 0 10; rw [hl, pk_sub (by omega)]; exact nI_le (by omega) (by omega)) ?_
  refine a_iconst i_F_load_25 ?_
  refine a_istore i_F_load_26 rfl ?_
  have key : ∀ j i, i + j = m → am_A S_c M_F_load (28, [some (.ref 0), some (.int (nI m)), some (.long x), none, some (.int (nI i))], [], ldC σ x len i) (am_r S_c (fun r σ' => r = some (.int 1) ∧ σ' = fgC (am_fi (ldC σ x len m) 0 10 (nI (len + m))))) := by
    intro j
    induction j with
    | zero =>
      intro i hi
      have e : i = m := by omega
      subst e
      refine a_iload i_F_load_28 rfl ?_
      refine a_iload_n i_F_load_30 rfl ?_
      refine a_ict i_F_load_31 (nI_le (Nat.le_refl _) (by omega)) ?_
      refine a_aload_n i_F_load_61 rfl ?_
      refine a_dup_a i_F_load_62 ?_
      refine a_get (v := .int ((ldC σ x len i).1.1 0 10)) i_F_load_63 rfl rfl ?_
      refine a_iload_n i_F_load_66 rfl ?_
      refine a_iadd i_F_load_67 ?_
      refine a_puti i_F_load_68 rfl trivial ?_
      refine a_aload_n i_F_load_71 rfl ?_
      rw [ldC_1, hl, nI_add]
      refine am_cv (rest := []) [] c_F_load_72 ⟨by decide, _, rfl⟩ rfl (Nat.le_of_ble_eq_true rfl) (f_forget) (fun r9 σ9 h9 => ?_)
      obtain ⟨rfl, rfl⟩ := h9
      refine a_iconst i_F_load_75 ?_
      exact am_ret_z ok_F_load rfl rfl (Or.inr rfl) ⟨rfl, rfl⟩
    | succ j ih =>
      intro i hi
      refine a_iload i_F_load_28 rfl ?_
      refine a_iload_n i_F_load_30 rfl ?_
      refine a_icf i_F_load_31 (nI_ge (a := i) (b := m) (by omega) (by omega)) ?_
      refine a_aload_n i_F_load_34 rfl ?_
      refine a_get (v := .ref 1) i_F_load_35 rfl rfl ?_
      refine a_aload_n i_F_load_38 rfl ?_
      refine a_get (v := .int ((ldC σ x len i).1.1 0 10)) i_F_load_39 rfl rfl ?_
      refine a_iload i_F_load_42 rfl ?_
      refine a_iadd i_F_load_44 ?_
      refine a_lload_n i_F_load_45 rfl ?_
      refine a_bipush i_F_load_46 ?_
      refine a_iload i_F_load_48 rfl ?_
      refine a_imul i_F_load_50 ?_
      refine a_lushr i_F_load_51 ?_
      refine a_l2i i_F_load_52 ?_
      refine a_i2b i_F_load_53 ?_
      refine a_bas (n := 3000) i_F_load_54 rfl rfl (by rw [ldC_1, hl, nI_add]; exact vp_in_nI (by omega) (by decide)) ?_
      refine a_iinc i_F_load_55 rfl rfl ?_
      refine a_goto i_F_load_58 ?_
      rw [ldC_1, hl, nI_add, nI_clamp (by omega), nI_1]
      exact ih (i + 1) (by omega)
  exact key m 0 (by omega)
end
section
theorem i_Mo_thrown_0 : am_I1 S_m M_Mo_thrown 0 1 (.aload_n 0) (xN) := ⟨sys_m, ok_Mo_thrown, rfl⟩
theorem i_Mo_thrown_1 : am_I1 S_m M_Mo_thrown 1 3 (.getfield 144) (xF 0 1 0) := ⟨sys_m, ok_Mo_thrown, rfl⟩
theorem i_Mo_load_0 : am_I1 S_m M_Mo_load 0 1 (.aload_n 0) (xN) := ⟨sys_m, ok_Mo_load, rfl⟩
theorem i_Mo_load_1 : am_I1 S_m M_Mo_load 1 1 (.iconst 0) (xI (0)) := ⟨sys_m, ok_Mo_load, rfl⟩
theorem i_Mo_load_2 : am_I1 S_m M_Mo_load 2 3 (.putfield 144) (xF 0 1 0) := ⟨sys_m, ok_Mo_load, rfl⟩
theorem i_Mo_load_5 : am_I1 S_m M_Mo_load 5 1 (.iload_n 1) (xN) := ⟨sys_m, ok_Mo_load, rfl⟩
theorem i_Mo_load_6 : am_I1 S_m M_Mo_load 6 1 (.iconst 1) (xI (1)) := ⟨sys_m, ok_Mo_load, rfl⟩
theorem i_Mo_load_7 : am_I1 S_m M_Mo_load 7 3 (.if_icmp .lt (21)) (xJ 28) := ⟨sys_m, ok_Mo_load, rfl⟩
theorem i_Mo_load_10 : am_I1 S_m M_Mo_load 10 1 (.iload_n 1) (xN) := ⟨sys_m, ok_Mo_load, rfl⟩
theorem i_Mo_load_11 : am_I1 S_m M_Mo_load 11 2 (.bipush 8) (xI (8)) := ⟨sys_m, ok_Mo_load, rfl⟩
theorem i_Mo_load_13 : am_I1 S_m M_Mo_load 13 3 (.if_icmp .gt (15)) (xJ 28) := ⟨sys_m, ok_Mo_load, rfl⟩
theorem i_Mo_load_16 : am_I1 S_m M_Mo_load 16 1 (.aload_n 0) (xN) := ⟨sys_m, ok_Mo_load, rfl⟩
theorem i_Mo_load_17 : am_I1 S_m M_Mo_load 17 3 (.getfield 148) (xF 0 3 0) := ⟨sys_m, ok_Mo_load, rfl⟩
theorem i_Mo_load_20 : am_I1 S_m M_Mo_load 20 1 (.iload_n 1) (xN) := ⟨sys_m, ok_Mo_load, rfl⟩
theorem i_Mo_load_21 : am_I1 S_m M_Mo_load 21 1 (.iadd) (xN) := ⟨sys_m, ok_Mo_load, rfl⟩
theorem i_Mo_load_22 : am_I1 S_m M_Mo_load 22 3 (.sipush 3000) (xI (3000)) := ⟨sys_m, ok_Mo_load, rfl⟩
theorem i_Mo_load_25 : am_I1 S_m M_Mo_load 25 3 (.if_icmp .le (5)) (xJ 30) := ⟨sys_m, ok_Mo_load, rfl⟩
theorem i_Mo_load_28 : am_I1 S_m M_Mo_load 28 1 (.iconst 0) (xI (0)) := ⟨sys_m, ok_Mo_load, rfl⟩
theorem i_Mo_load_30 : am_I1 S_m M_Mo_load 30 1 (.iconst 0) (xI (0)) := ⟨sys_m, ok_Mo_load, rfl⟩
theorem i_Mo_load_31 : am_I1 S_m M_Mo_load 31 2 (.istore 4) (xN) := ⟨sys_m, ok_Mo_load, rfl⟩
theorem i_Mo_load_33 : am_I1 S_m M_Mo_load 33 2 (.iload 4) (xN) := ⟨sys_m, ok_Mo_load, rfl⟩
theorem i_Mo_load_35 : am_I1 S_m M_Mo_load 35 1 (.iload_n 1) (xN) := ⟨sys_m, ok_Mo_load, rfl⟩
theorem i_Mo_load_36 : am_I1 S_m M_Mo_load 36 3 (.if_icmp .ge (37)) (xJ 73) := ⟨sys_m, ok_Mo_load, rfl⟩
theorem i_Mo_load_39 : am_I1 S_m M_Mo_load 39 1 (.aload_n 0) (xN) := ⟨sys_m, ok_Mo_load, rfl⟩
theorem i_Mo_load_40 : am_I1 S_m M_Mo_load 40 3 (.getfield 45) (xF 0 2 2) := ⟨sys_m, ok_Mo_load, rfl⟩
theorem i_Mo_load_43 : am_I1 S_m M_Mo_load 43 1 (.aload_n 0) (xN) := ⟨sys_m, ok_Mo_load, rfl⟩
theorem i_Mo_load_44 : am_I1 S_m M_Mo_load 44 3 (.getfield 148) (xF 0 3 0) := ⟨sys_m, ok_Mo_load, rfl⟩
theorem i_Mo_load_47 : am_I1 S_m M_Mo_load 47 1 (.lload_n 2) (xN) := ⟨sys_m, ok_Mo_load, rfl⟩
theorem i_Mo_load_48 : am_I1 S_m M_Mo_load 48 2 (.bipush 8) (xI (8)) := ⟨sys_m, ok_Mo_load, rfl⟩
theorem i_Mo_load_50 : am_I1 S_m M_Mo_load 50 2 (.iload 4) (xN) := ⟨sys_m, ok_Mo_load, rfl⟩
theorem i_Mo_load_52 : am_I1 S_m M_Mo_load 52 1 (.imul) (xN) := ⟨sys_m, ok_Mo_load, rfl⟩
theorem i_Mo_load_53 : am_I1 S_m M_Mo_load 53 1 (.lshr) (xN) := ⟨sys_m, ok_Mo_load, rfl⟩
theorem i_Mo_load_54 : am_I1 S_m M_Mo_load 54 1 (.l2i) (xN) := ⟨sys_m, ok_Mo_load, rfl⟩
theorem i_Mo_load_55 : am_I1 S_m M_Mo_load 55 1 (.i2b) (xN) := ⟨sys_m, ok_Mo_load, rfl⟩
theorem i_Mo_load_56 : am_I1 S_m M_Mo_load 56 1 (.bastore) (xJ 2) := ⟨sys_m, ok_Mo_load, rfl⟩
theorem i_Mo_load_57 : am_I1 S_m M_Mo_load 57 1 (.aload_n 0) (xN) := ⟨sys_m, ok_Mo_load, rfl⟩
theorem i_Mo_load_58 : am_I1 S_m M_Mo_load 58 1 (.dup) (xN) := ⟨sys_m, ok_Mo_load, rfl⟩
theorem i_Mo_load_59 : am_I1 S_m M_Mo_load 59 3 (.getfield 148) (xF 0 3 0) := ⟨sys_m, ok_Mo_load, rfl⟩
theorem i_Mo_load_62 : am_I1 S_m M_Mo_load 62 1 (.iconst 1) (xI (1)) := ⟨sys_m, ok_Mo_load, rfl⟩
theorem i_Mo_load_63 : am_I1 S_m M_Mo_load 63 1 (.iadd) (xN) := ⟨sys_m, ok_Mo_load, rfl⟩
theorem i_Mo_load_64 : am_I1 S_m M_Mo_load 64 3 (.putfield 148) (xF 0 3 0) := ⟨sys_m, ok_Mo_load, rfl⟩
theorem i_Mo_load_67 : am_I1 S_m M_Mo_load 67 3 (.iinc 4 (1)) (xI (1)) := ⟨sys_m, ok_Mo_load, rfl⟩
theorem i_Mo_load_70 : am_I1 S_m M_Mo_load 70 3 (.goto (-37)) (xJ 33) := ⟨sys_m, ok_Mo_load, rfl⟩
theorem i_Mo_load_73 : am_I1 S_m M_Mo_load 73 1 (.aload_n 0) (xN) := ⟨sys_m, ok_Mo_load, rfl⟩
theorem i_Mo_load_77 : am_I1 S_m M_Mo_load 77 1 (.iconst 1) (xI (1)) := ⟨sys_m, ok_Mo_load, rfl⟩
theorem i_Mo_clear_0 : am_I1 S_m M_Mo_clear 0 1 (.aload_n 0) (xN) := ⟨sys_m, ok_Mo_clear, rfl⟩
theorem i_Mo_clear_1 : am_I1 S_m M_Mo_clear 1 1 (.iconst 0) (xI (0)) := ⟨sys_m, ok_Mo_clear, rfl⟩
theorem i_Mo_clear_2 : am_I1 S_m M_Mo_clear 2 3 (.putfield 144) (xF 0 1 0) := ⟨sys_m, ok_Mo_clear, rfl⟩
theorem i_Mo_clear_5 : am_I1 S_m M_Mo_clear 5 1 (.aload_n 0) (xN) := ⟨sys_m, ok_Mo_clear, rfl⟩
theorem i_Mo_clear_6 : am_I1 S_m M_Mo_clear 6 1 (.iconst 0) (xI (0)) := ⟨sys_m, ok_Mo_clear, rfl⟩
theorem i_Mo_clear_7 : am_I1 S_m M_Mo_clear 7 3 (.putfield 148) (xF 0 3 0) := ⟨sys_m, ok_Mo_clear, rfl⟩
theorem i_Mo_clear_10 : am_I1 S_m M_Mo_clear 10 1 (.aload_n 0) (xN) := ⟨sys_m, ok_Mo_clear, rfl⟩
theorem i_Mo_forget_0 : am_I1 S_m M_Mo_forget 0 1 (.aload_n 0) (xN) := ⟨sys_m, ok_Mo_forget, rfl⟩
theorem i_Mo_forget_1 : am_I1 S_m M_Mo_forget 1 1 (.iconst 0) (xI (0)) := ⟨sys_m, ok_Mo_forget, rfl⟩
theorem i_Mo_forget_2 : am_I1 S_m M_Mo_forget 2 3 (.putfield 154) (xF 0 5 3) := ⟨sys_m, ok_Mo_forget, rfl⟩
theorem i_Mo_forget_5 : am_I1 S_m M_Mo_forget 5 1 (.aload_n 0) (xN) := ⟨sys_m, ok_Mo_forget, rfl⟩
theorem i_Mo_forget_6 : am_I1 S_m M_Mo_forget 6 1 (.iconst 0) (xI (0)) := ⟨sys_m, ok_Mo_forget, rfl⟩
theorem i_Mo_forget_7 : am_I1 S_m M_Mo_forget 7 3 (.putfield 158) (xF 0 56 0) := ⟨sys_m, ok_Mo_forget, rfl⟩
theorem i_Mo_forget_10 : am_I1 S_m M_Mo_forget 10 1 (.aload_n 0) (xN) := ⟨sys_m, ok_Mo_forget, rfl⟩
theorem i_Mo_forget_11 : am_I1 S_m M_Mo_forget 11 1 (.iconst 0) (xI (0)) := ⟨sys_m, ok_Mo_forget, rfl⟩
theorem i_Mo_forget_12 : am_I1 S_m M_Mo_forget 12 3 (.putfield 161) (xF 0 55 0) := ⟨sys_m, ok_Mo_forget, rfl⟩
theorem i_Mo_isHead_0 : am_I1 S_m M_Mo_isHead 0 1 (.aload_n 0) (xN) := ⟨sys_m, ok_Mo_isHead, rfl⟩
theorem i_Mo_isHead_1 : am_I1 S_m M_Mo_isHead 1 3 (.getfield 148) (xF 0 3 0) := ⟨sys_m, ok_Mo_isHead, rfl⟩
theorem i_Mo_isHead_4 : am_I1 S_m M_Mo_isHead 4 2 (.bipush 64) (xI (64)) := ⟨sys_m, ok_Mo_isHead, rfl⟩
theorem i_Mo_isHead_6 : am_I1 S_m M_Mo_isHead 6 3 (.if_icmp .lt (70)) (xJ 76) := ⟨sys_m, ok_Mo_isHead, rfl⟩
theorem i_Mo_isHead_76 : am_I1 S_m M_Mo_isHead 76 1 (.iconst 0) (xI (0)) := ⟨sys_m, ok_Mo_isHead, rfl⟩
theorem i_Mo_readSections_0 : am_I1 S_m M_Mo_readSections 0 1 (.aload_n 0) (xN) := ⟨sys_m, ok_Mo_readSections, rfl⟩
theorem i_Mo_readSections_4 : am_I1 S_m M_Mo_readSections 4 3 (.ifCond .ne (5)) (xJ 9) := ⟨sys_m, ok_Mo_readSections, rfl⟩
theorem i_Mo_readSections_7 : am_I1 S_m M_Mo_readSections 7 1 (.iconst 0) (xI (0)) := ⟨sys_m, ok_Mo_readSections, rfl⟩
theorem i_Mo_open_0 : am_I1 S_m M_Mo_open 0 1 (.aload_n 0) (xN) := ⟨sys_m, ok_Mo_open, rfl⟩
theorem i_Mo_open_4 : am_I1 S_m M_Mo_open 4 1 (.aload_n 0) (xN) := ⟨sys_m, ok_Mo_open, rfl⟩
theorem i_Mo_open_5 : am_I1 S_m M_Mo_open 5 1 (.iconst 0) (xI (0)) := ⟨sys_m, ok_Mo_open, rfl⟩
theorem i_Mo_open_6 : am_I1 S_m M_Mo_open 6 3 (.putfield 213) (xF 0 9 0) := ⟨sys_m, ok_Mo_open, rfl⟩
theorem i_Mo_open_9 : am_I1 S_m M_Mo_open 9 1 (.aload_n 0) (xN) := ⟨sys_m, ok_Mo_open, rfl⟩
theorem i_Mo_open_10 : am_I1 S_m M_Mo_open 10 1 (.iconst 0) (xI (0)) := ⟨sys_m, ok_Mo_open, rfl⟩
theorem i_Mo_open_11 : am_I1 S_m M_Mo_open 11 3 (.putfield 263) (xF 0 21 0) := ⟨sys_m, ok_Mo_open, rfl⟩
theorem i_Mo_open_14 : am_I1 S_m M_Mo_open 14 1 (.aload_n 0) (xN) := ⟨sys_m, ok_Mo_open, rfl⟩
theorem i_Mo_open_15 : am_I1 S_m M_Mo_open 15 1 (.iconst 0) (xI (0)) := ⟨sys_m, ok_Mo_open, rfl⟩
theorem i_Mo_open_16 : am_I1 S_m M_Mo_open 16 3 (.putfield 257) (xF 0 22 0) := ⟨sys_m, ok_Mo_open, rfl⟩
theorem i_Mo_open_19 : am_I1 S_m M_Mo_open 19 1 (.aload_n 0) (xN) := ⟨sys_m, ok_Mo_open, rfl⟩
theorem i_Mo_open_20 : am_I1 S_m M_Mo_open 20 1 (.iconst 0) (xI (0)) := ⟨sys_m, ok_Mo_open, rfl⟩
theorem i_Mo_open_21 : am_I1 S_m M_Mo_open 21 3 (.putfield 340) (xF 0 33 0) := ⟨sys_m, ok_Mo_open, rfl⟩
theorem i_Mo_open_24 : am_I1 S_m M_Mo_open 24 1 (.aload_n 0) (xN) := ⟨sys_m, ok_Mo_open, rfl⟩
theorem i_Mo_open_25 : am_I1 S_m M_Mo_open 25 1 (.iconst 0) (xI (0)) := ⟨sys_m, ok_Mo_open, rfl⟩
theorem i_Mo_open_26 : am_I1 S_m M_Mo_open 26 3 (.putfield 368) (xF 0 38 0) := ⟨sys_m, ok_Mo_open, rfl⟩
theorem i_Mo_open_29 : am_I1 S_m M_Mo_open 29 1 (.aload_n 0) (xN) := ⟨sys_m, ok_Mo_open, rfl⟩
theorem i_Mo_open_30 : am_I1 S_m M_Mo_open 30 1 (.aload_n 0) (xN) := ⟨sys_m, ok_Mo_open, rfl⟩
theorem i_Mo_open_34 : am_I1 S_m M_Mo_open 34 3 (.ifCond .ne (7)) (xJ 41) := ⟨sys_m, ok_Mo_open, rfl⟩
theorem i_Mo_open_37 : am_I1 S_m M_Mo_open 37 1 (.iconst 1) (xI (1)) := ⟨sys_m, ok_Mo_open, rfl⟩
theorem i_Mo_open_38 : am_I1 S_m M_Mo_open 38 3 (.goto (48)) (xJ 86) := ⟨sys_m, ok_Mo_open, rfl⟩
theorem i_Mo_open_86 : am_I1 S_m M_Mo_open 86 3 (.putfield 441) (xF 0 4 0) := ⟨sys_m, ok_Mo_open, rfl⟩
theorem i_Mo_open_89 : am_I1 S_m M_Mo_open 89 1 (.aload_n 0) (xN) := ⟨sys_m, ok_Mo_open, rfl⟩
theorem i_Mo_open_90 : am_I1 S_m M_Mo_open 90 1 (.aload_n 0) (xN) := ⟨sys_m, ok_Mo_open, rfl⟩
theorem i_Mo_open_91 : am_I1 S_m M_Mo_open 91 3 (.getfield 441) (xF 0 4 0) := ⟨sys_m, ok_Mo_open, rfl⟩
theorem i_Mo_open_94 : am_I1 S_m M_Mo_open 94 3 (.ifCond .ne (7)) (xJ 101) := ⟨sys_m, ok_Mo_open, rfl⟩
theorem i_Mo_open_101 : am_I1 S_m M_Mo_open 101 1 (.iconst 0) (xI (0)) := ⟨sys_m, ok_Mo_open, rfl⟩
theorem i_Mo_open_102 : am_I1 S_m M_Mo_open 102 3 (.putfield 154) (xF 0 5 3) := ⟨sys_m, ok_Mo_open, rfl⟩
theorem i_Mo_open_105 : am_I1 S_m M_Mo_open 105 1 (.aload_n 0) (xN) := ⟨sys_m, ok_Mo_open, rfl⟩
theorem i_Mo_open_106 : am_I1 S_m M_Mo_open 106 1 (.aload_n 0) (xN) := ⟨sys_m, ok_Mo_open, rfl⟩
theorem i_Mo_open_107 : am_I1 S_m M_Mo_open 107 3 (.getfield 154) (xF 0 5 3) := ⟨sys_m, ok_Mo_open, rfl⟩
theorem i_Mo_open_110 : am_I1 S_m M_Mo_open 110 3 (.ifCond .eq (7)) (xJ 117) := ⟨sys_m, ok_Mo_open, rfl⟩
theorem i_Mo_open_117 : am_I1 S_m M_Mo_open 117 1 (.iconst 1) (xI (1)) := ⟨sys_m, ok_Mo_open, rfl⟩
theorem i_Mo_open_118 : am_I1 S_m M_Mo_open 118 3 (.putfield 144) (xF 0 1 0) := ⟨sys_m, ok_Mo_open, rfl⟩
theorem i_Mo_open_121 : am_I1 S_m M_Mo_open 121 1 (.aload_n 0) (xN) := ⟨sys_m, ok_Mo_open, rfl⟩
theorem i_Mo_open_122 : am_I1 S_m M_Mo_open 122 3 (.getfield 154) (xF 0 5 3) := ⟨sys_m, ok_Mo_open, rfl⟩
theorem i_Mo_open_125 : am_I1 S_m M_Mo_open 125 3 (.ifCond .eq (10)) (xJ 135) := ⟨sys_m, ok_Mo_open, rfl⟩
theorem i_Mo_open_135 : am_I1 S_m M_Mo_open 135 1 (.iconst 0) (xI (0)) := ⟨sys_m, ok_Mo_open, rfl⟩
theorem i_Mo_fault_0 : am_I1 S_m M_Mo_fault 0 1 (.aload_n 0) (xN) := ⟨sys_m, ok_Mo_fault, rfl⟩
theorem i_Mo_fault_1 : am_I1 S_m M_Mo_fault 1 1 (.iconst 0) (xI (0)) := ⟨sys_m, ok_Mo_fault, rfl⟩
theorem i_Mo_fault_2 : am_I1 S_m M_Mo_fault 2 3 (.putfield 144) (xF 0 1 0) := ⟨sys_m, ok_Mo_fault, rfl⟩
theorem i_Mo_fault_5 : am_I1 S_m M_Mo_fault 5 1 (.aload_n 0) (xN) := ⟨sys_m, ok_Mo_fault, rfl⟩
theorem i_Mo_fault_6 : am_I1 S_m M_Mo_fault 6 3 (.getfield 441) (xF 0 4 0) := ⟨sys_m, ok_Mo_fault, rfl⟩
theorem i_Mo_count_0 : am_I1 S_m M_Mo_count 0 1 (.aload_n 0) (xN) := ⟨sys_m, ok_Mo_count, rfl⟩
theorem i_Mo_count_1 : am_I1 S_m M_Mo_count 1 1 (.iconst 0) (xI (0)) := ⟨sys_m, ok_Mo_count, rfl⟩
theorem i_Mo_count_2 : am_I1 S_m M_Mo_count 2 3 (.putfield 144) (xF 0 1 0) := ⟨sys_m, ok_Mo_count, rfl⟩
theorem i_Mo_count_5 : am_I1 S_m M_Mo_count 5 1 (.aload_n 0) (xN) := ⟨sys_m, ok_Mo_count, rfl⟩
theorem i_Mo_count_6 : am_I1 S_m M_Mo_count 6 3 (.getfield 154) (xF 0 5 3) := ⟨sys_m, ok_Mo_count, rfl⟩
theorem i_Mo_count_9 : am_I1 S_m M_Mo_count 9 3 (.ifCond .ne (5)) (xJ 14) := ⟨sys_m, ok_Mo_count, rfl⟩
theorem i_Mo_count_12 : am_I1 S_m M_Mo_count 12 1 (.iconst (-1)) (xI (-1)) := ⟨sys_m, ok_Mo_count, rfl⟩
theorem i_Mo_count_14 : am_I1 S_m M_Mo_count 14 1 (.iload_n 1) (xN) := ⟨sys_m, ok_Mo_count, rfl⟩
theorem i_Mo_count_15 : am_I1 S_m M_Mo_count 15 37 (.tableswitch (67) (0) (5) #[37, 42, 47, 52, 57, 62]) (xN) := ⟨sys_m, ok_Mo_count, rfl⟩
theorem i_Mo_count_52 : am_I1 S_m M_Mo_count 52 1 (.aload_n 0) (xN) := ⟨sys_m, ok_Mo_count, rfl⟩
theorem i_Mo_count_53 : am_I1 S_m M_Mo_count 53 3 (.getfield 213) (xF 0 9 0) := ⟨sys_m, ok_Mo_count, rfl⟩
theorem i_Mo_count_57 : am_I1 S_m M_Mo_count 57 1 (.aload_n 0) (xN) := ⟨sys_m, ok_Mo_count, rfl⟩
theorem i_Mo_count_58 : am_I1 S_m M_Mo_count 58 3 (.getfield 263) (xF 0 21 0) := ⟨sys_m, ok_Mo_count, rfl⟩
theorem i_Mo_count_62 : am_I1 S_m M_Mo_count 62 1 (.aload_n 0) (xN) := ⟨sys_m, ok_Mo_count, rfl⟩
theorem i_Mo_count_63 : am_I1 S_m M_Mo_count 63 3 (.getfield 257) (xF 0 22 0) := ⟨sys_m, ok_Mo_count, rfl⟩
theorem i_Mo_count_67 : am_I1 S_m M_Mo_count 67 1 (.aload_n 0) (xN) := ⟨sys_m, ok_Mo_count, rfl⟩
theorem i_Mo_count_68 : am_I1 S_m M_Mo_count 68 3 (.getfield 340) (xF 0 33 0) := ⟨sys_m, ok_Mo_count, rfl⟩
theorem i_Mo_count_72 : am_I1 S_m M_Mo_count 72 1 (.aload_n 0) (xN) := ⟨sys_m, ok_Mo_count, rfl⟩
theorem i_Mo_count_73 : am_I1 S_m M_Mo_count 73 3 (.getfield 368) (xF 0 38 0) := ⟨sys_m, ok_Mo_count, rfl⟩
theorem i_Mo_count_77 : am_I1 S_m M_Mo_count 77 1 (.aload_n 0) (xN) := ⟨sys_m, ok_Mo_count, rfl⟩
theorem i_Mo_count_78 : am_I1 S_m M_Mo_count 78 3 (.getfield 423) (xF 0 54 0) := ⟨sys_m, ok_Mo_count, rfl⟩
theorem i_Mo_count_82 : am_I1 S_m M_Mo_count 82 1 (.iconst (-1)) (xI (-1)) := ⟨sys_m, ok_Mo_count, rfl⟩
theorem i_Mo_find_0 : am_I1 S_m M_Mo_find 0 1 (.aload_n 0) (xN) := ⟨sys_m, ok_Mo_find, rfl⟩
theorem i_Mo_find_1 : am_I1 S_m M_Mo_find 1 1 (.aload_n 0) (xN) := ⟨sys_m, ok_Mo_find, rfl⟩
theorem i_Mo_find_2 : am_I1 S_m M_Mo_find 2 3 (.getfield 154) (xF 0 5 3) := ⟨sys_m, ok_Mo_find, rfl⟩
theorem i_Mo_find_5 : am_I1 S_m M_Mo_find 5 3 (.ifCond .eq (7)) (xJ 12) := ⟨sys_m, ok_Mo_find, rfl⟩
theorem i_Mo_find_12 : am_I1 S_m M_Mo_find 12 1 (.iconst 1) (xI (1)) := ⟨sys_m, ok_Mo_find, rfl⟩
theorem i_Mo_find_13 : am_I1 S_m M_Mo_find 13 3 (.putfield 144) (xF 0 1 0) := ⟨sys_m, ok_Mo_find, rfl⟩
theorem i_Mo_find_16 : am_I1 S_m M_Mo_find 16 1 (.aload_n 0) (xN) := ⟨sys_m, ok_Mo_find, rfl⟩
theorem i_Mo_find_17 : am_I1 S_m M_Mo_find 17 3 (.getfield 154) (xF 0 5 3) := ⟨sys_m, ok_Mo_find, rfl⟩
theorem i_Mo_find_20 : am_I1 S_m M_Mo_find 20 3 (.ifCond .ne (5)) (xJ 25) := ⟨sys_m, ok_Mo_find, rfl⟩
theorem i_Mo_find_23 : am_I1 S_m M_Mo_find 23 1 (.iconst 0) (xI (0)) := ⟨sys_m, ok_Mo_find, rfl⟩
theorem i_Mo_isFrame_0 : am_I1 S_m M_Mo_isFrame 0 1 (.iload_n 1) (xN) := ⟨sys_m, ok_Mo_isFrame, rfl⟩
theorem i_Mo_isFrame_1 : am_I1 S_m M_Mo_isFrame 1 3 (.ifCond .lt (15)) (xJ 16) := ⟨sys_m, ok_Mo_isFrame, rfl⟩
theorem i_Mo_isFrame_4 : am_I1 S_m M_Mo_isFrame 4 1 (.iload_n 1) (xN) := ⟨sys_m, ok_Mo_isFrame, rfl⟩
theorem i_Mo_isFrame_5 : am_I1 S_m M_Mo_isFrame 5 1 (.aload_n 0) (xN) := ⟨sys_m, ok_Mo_isFrame, rfl⟩
theorem i_Mo_isFrame_6 : am_I1 S_m M_Mo_isFrame 6 3 (.getfield 158) (xF 0 56 0) := ⟨sys_m, ok_Mo_isFrame, rfl⟩
theorem i_Mo_isFrame_9 : am_I1 S_m M_Mo_isFrame 9 3 (.if_icmp .ge (7)) (xJ 16) := ⟨sys_m, ok_Mo_isFrame, rfl⟩
theorem i_Mo_isFrame_12 : am_I1 S_m M_Mo_isFrame 12 1 (.iconst 1) (xI (1)) := ⟨sys_m, ok_Mo_isFrame, rfl⟩
theorem i_Mo_isFrame_13 : am_I1 S_m M_Mo_isFrame 13 3 (.goto (4)) (xJ 17) := ⟨sys_m, ok_Mo_isFrame, rfl⟩
theorem i_Mo_isFrame_16 : am_I1 S_m M_Mo_isFrame 16 1 (.iconst 0) (xI (0)) := ⟨sys_m, ok_Mo_isFrame, rfl⟩
theorem i_Mo_name_0 : am_I1 S_m M_Mo_name 0 1 (.aload_n 0) (xN) := ⟨sys_m, ok_Mo_name, rfl⟩
theorem i_Mo_name_1 : am_I1 S_m M_Mo_name 1 1 (.iconst 0) (xI (0)) := ⟨sys_m, ok_Mo_name, rfl⟩
theorem i_Mo_name_2 : am_I1 S_m M_Mo_name 2 3 (.putfield 144) (xF 0 1 0) := ⟨sys_m, ok_Mo_name, rfl⟩
theorem i_Mo_name_5 : am_I1 S_m M_Mo_name 5 1 (.aload_n 0) (xN) := ⟨sys_m, ok_Mo_name, rfl⟩
theorem i_Mo_name_6 : am_I1 S_m M_Mo_name 6 1 (.iload_n 1) (xN) := ⟨sys_m, ok_Mo_name, rfl⟩
theorem i_Mo_name_10 : am_I1 S_m M_Mo_name 10 3 (.ifCond .eq (16)) (xJ 26) := ⟨sys_m, ok_Mo_name, rfl⟩
theorem i_Mo_name_26 : am_I1 S_m M_Mo_name 26 1 (.iconst (-1)) (xI (-1)) := ⟨sys_m, ok_Mo_name, rfl⟩
theorem i_Mo_file_0 : am_I1 S_m M_Mo_file 0 1 (.aload_n 0) (xN) := ⟨sys_m, ok_Mo_file, rfl⟩
theorem i_Mo_file_1 : am_I1 S_m M_Mo_file 1 1 (.iconst 0) (xI (0)) := ⟨sys_m, ok_Mo_file, rfl⟩
theorem i_Mo_file_2 : am_I1 S_m M_Mo_file 2 3 (.putfield 144) (xF 0 1 0) := ⟨sys_m, ok_Mo_file, rfl⟩
theorem i_Mo_file_5 : am_I1 S_m M_Mo_file 5 1 (.aload_n 0) (xN) := ⟨sys_m, ok_Mo_file, rfl⟩
theorem i_Mo_file_6 : am_I1 S_m M_Mo_file 6 1 (.iload_n 1) (xN) := ⟨sys_m, ok_Mo_file, rfl⟩
theorem i_Mo_file_10 : am_I1 S_m M_Mo_file 10 3 (.ifCond .eq (10)) (xJ 20) := ⟨sys_m, ok_Mo_file, rfl⟩
theorem i_Mo_file_20 : am_I1 S_m M_Mo_file 20 1 (.iconst (-1)) (xI (-1)) := ⟨sys_m, ok_Mo_file, rfl⟩
theorem i_Mo_line_0 : am_I1 S_m M_Mo_line 0 1 (.aload_n 0) (xN) := ⟨sys_m, ok_Mo_line, rfl⟩
theorem i_Mo_line_1 : am_I1 S_m M_Mo_line 1 1 (.iconst 0) (xI (0)) := ⟨sys_m, ok_Mo_line, rfl⟩
theorem i_Mo_line_2 : am_I1 S_m M_Mo_line 2 3 (.putfield 144) (xF 0 1 0) := ⟨sys_m, ok_Mo_line, rfl⟩
theorem i_Mo_line_5 : am_I1 S_m M_Mo_line 5 1 (.aload_n 0) (xN) := ⟨sys_m, ok_Mo_line, rfl⟩
theorem i_Mo_line_6 : am_I1 S_m M_Mo_line 6 1 (.iload_n 1) (xN) := ⟨sys_m, ok_Mo_line, rfl⟩
theorem i_Mo_line_10 : am_I1 S_m M_Mo_line 10 3 (.ifCond .ne (5)) (xJ 15) := ⟨sys_m, ok_Mo_line, rfl⟩
theorem i_Mo_line_13 : am_I1 S_m M_Mo_line 13 1 (.iconst (-1)) (xI (-1)) := ⟨sys_m, ok_Mo_line, rfl⟩
theorem c_Mo_clear_11 : am_V S_m M_Mo_clear M_Mo_forget 11 0 0 := am_V_of (tl := lw_tbl) (idx := 151) (nest := false) (h1 := 1474) (h2 := 1477) (h3 := 126) (h4 := 1476) (h5 := 55) sys_m ok_Mo_clear ht_m hn_m rfl (by decide +kernel) (by decide +kernel)
theorem c_Mo_load_74 : am_V S_m M_Mo_load M_Mo_forget 74 0 0 := am_V_of (tl := lw_tbl) (idx := 151) (nest := false) (h1 := 1474) (h2 := 1477) (h3 := 126) (h4 := 1476) (h5 := 55) sys_m ok_Mo_load ht_m hn_m rfl (by decide +kernel) (by decide +kernel)
theorem c_Mo_name_7 : am_V S_m M_Mo_name M_Mo_isFrame 7 1 0 := am_V_of (tl := lw_tbl) (idx := 473) (nest := false) (h1 := 1754) (h2 := 1757) (h3 := 126) (h4 := 1756) (h5 := 109) sys_m ok_Mo_name ht_m hn_m rfl (by decide +kernel) (by decide +kernel)
theorem c_Mo_file_7 : am_V S_m M_Mo_file M_Mo_isFrame 7 1 0 := am_V_of (tl := lw_tbl) (idx := 473) (nest := false) (h1 := 1754) (h2 := 1757) (h3 := 126) (h4 := 1756) (h5 := 109) sys_m ok_Mo_file ht_m hn_m rfl (by decide +kernel) (by decide +kernel)
theorem c_Mo_line_7 : am_V S_m M_Mo_line M_Mo_isFrame 7 1 0 := am_V_of (tl := lw_tbl) (idx := 473) (nest := false) (h1 := 1754) (h2 := 1757) (h3 := 126) (h4 := 1756) (h5 := 109) sys_m ok_Mo_line ht_m hn_m rfl (by decide +kernel) (by decide +kernel)
theorem c_Mo_readSections_1 : am_V S_m M_Mo_readSections M_Mo_isHead 1 0 0 := am_V_of (tl := lw_tbl) (idx := 209) (nest := false) (h1 := 1490) (h2 := 1493) (h3 := 126) (h4 := 1492) (h5 := 57) sys_m ok_Mo_readSections ht_m hn_m rfl (by decide +kernel) (by decide +kernel)
theorem c_Mo_open_1 : am_V S_m M_Mo_open M_Mo_forget 1 0 0 := am_V_of (tl := lw_tbl) (idx := 151) (nest := false) (h1 := 1474) (h2 := 1477) (h3 := 126) (h4 := 1476) (h5 := 55) sys_m ok_Mo_open ht_m hn_m rfl (by decide +kernel) (by decide +kernel)
theorem c_Mo_open_31 : am_V S_m M_Mo_open M_Mo_readSections 31 0 0 := am_V_of (tl := lw_tbl) (idx := 426) (nest := false) (h1 := 1486) (h2 := 1489) (h3 := 126) (h4 := 1488) (h5 := 56) sys_m ok_Mo_open ht_m hn_m rfl (by decide +kernel) (by decide +kernel)
end
section
/-! FrameFinderModel: thrown, forget, clear, fault, count, isFrame, load; find, open, name, file, line where nothing is open -/
def fgM (σ : am_S) : am_S := am_fi (am_fi (am_fi σ 0 5 0) 0 56 0) 0 55 0
theorem m_thrown {σ : am_S} : am_Mt S_m M_Mo_thrown [.ref 0] σ (fun r σ' => r = some (.int (σ.1.1 0 1)) ∧ σ' = σ) := by
  refine am_M_of ok_Mo_thrown (Nat.le_of_ble_eq_true rfl) ?_
  refine a_aload_n i_Mo_thrown_0 rfl ?_
  refine a_get (v := .int (σ.1.1 0 1)) i_Mo_thrown_1 rfl rfl ?_
  exact am_ret_i ok_Mo_thrown rfl rfl ⟨rfl, rfl⟩
theorem m_forget {σ : am_S} : am_Mt S_m M_Mo_forget [.ref 0] σ (fun r σ' => r = none ∧ σ' = fgM σ) := by
  refine am_M_of ok_Mo_forget (Nat.le_of_ble_eq_true rfl) ?_
  refine a_aload_n i_Mo_forget_0 rfl ?_
  refine a_iconst i_Mo_forget_1 ?_
  refine a_puti i_Mo_forget_2 rfl (Or.inl rfl) ?_
  refine a_aload_n i_Mo_forget_5 rfl ?_
  refine a_iconst i_Mo_forget_6 ?_
  refine a_puti i_Mo_forget_7 rfl trivial ?_
  refine a_aload_n i_Mo_forget_10 rfl ?_
  refine a_iconst i_Mo_forget_11 ?_
  refine a_puti i_Mo_forget_12 rfl trivial ?_
  exact am_ret_v ok_Mo_forget rfl rfl ⟨rfl, rfl⟩
theorem m_clear {σ : am_S} : am_Mt S_m M_Mo_clear [.ref 0] σ (fun r σ' => r = none ∧ σ' = fgM (am_fi (am_fi σ 0 1 0) 0 3 0)) := by
  refine am_M_of ok_Mo_clear (Nat.le_of_ble_eq_true rfl) ?_
  refine a_aload_n i_Mo_clear_0 rfl ?_
  refine a_iconst i_Mo_clear_1 ?_
  refine a_puti i_Mo_clear_2 rfl trivial ?_
  refine a_aload_n i_Mo_clear_5 rfl ?_
  refine a_iconst i_Mo_clear_6 ?_
  refine a_puti i_Mo_clear_7 rfl trivial ?_
  refine a_aload_n i_Mo_clear_10 rfl ?_
  refine am_cv (rest := []) [] c_Mo_clear_11 ⟨by decide, _, rfl⟩ rfl (Nat.le_of_ble_eq_true rfl) (m_forget) (fun r9 σ9 h9 => ?_)
  obtain ⟨rfl, rfl⟩ := h9
  exact am_ret_v ok_Mo_clear rfl rfl ⟨rfl, rfl⟩
theorem m_fault {σ : am_S} : am_Mt S_m M_Mo_fault [.ref 0] σ (fun r σ' => r = some (.int (σ.1.1 0 4)) ∧ σ' = am_fi σ 0 1 0) := by
  refine am_M_of ok_Mo_fault (Nat.le_of_ble_eq_true rfl) ?_
  refine a_aload_n i_Mo_fault_0 rfl ?_
  refine a_iconst i_Mo_fault_1 ?_
  refine a_puti i_Mo_fault_2 rfl trivial ?_
  refine a_aload_n i_Mo_fault_5 rfl ?_
  refine a_get (v := .int (σ.1.1 0 4)) i_Mo_fault_6 rfl rfl ?_
  exact am_ret_i ok_Mo_fault rfl rfl ⟨rfl, rfl⟩
def hasM (σ : am_S) (i : Int32) : Int32 := if 0 ≤ i ∧ i < σ.1.1 0 56 then 1 else 0
theorem m_isFrame {σ : am_S} {i : Int32} : am_Mt S_m M_Mo_isFrame [.ref 0, .int i] σ (fun r σ' => r = some (.int (hasM σ i)) ∧ σ' = σ) := by
  refine am_M_of ok_Mo_isFrame (Nat.le_of_ble_eq_true rfl) ?_
  by_cases h0 : i < 0
  · refine a_iload_n i_Mo_isFrame_0 rfl ?_
    refine a_ift i_Mo_isFrame_1 h0 ?_
    refine a_iconst i_Mo_isFrame_16 ?_
    refine am_ret_z ok_Mo_isFrame rfl rfl (Or.inl rfl) ⟨?_, rfl⟩
    have h1 : ¬ (0 ≤ i ∧ i < σ.1.1 0 56) := fun h => absurd h.1 (by rw [Int32.not_le]; exact h0)
    rw [hasM, if_neg h1]
  · by_cases h1 : i < σ.1.1 0 56
    · refine a_iload_n i_Mo_isFrame_0 rfl ?_
      refine a_iff i_Mo_isFrame_1 h0 ?_
      refine a_iload_n i_Mo_isFrame_4 rfl ?_
      refine a_aload_n i_Mo_isFrame_5 rfl ?_
      refine a_get (v := .int (σ.1.1 0 56)) i_Mo_isFrame_6 rfl rfl ?_
      refine a_icf i_Mo_isFrame_9 (by show ¬ σ.1.1 0 56 ≤ i; rw [Int32.not_le]; exact h1) ?_
      refine a_iconst i_Mo_isFrame_12 ?_
      refine a_goto i_Mo_isFrame_13 ?_
      refine am_ret_z ok_Mo_isFrame rfl rfl (Or.inr rfl) ⟨?_, rfl⟩
      rw [hasM, if_pos ⟨Int32.not_lt.mp h0, h1⟩]
    · refine a_iload_n i_Mo_isFrame_0 rfl ?_
      refine a_iff i_Mo_isFrame_1 h0 ?_
      refine a_iload_n i_Mo_isFrame_4 rfl ?_
      refine a_aload_n i_Mo_isFrame_5 rfl ?_
      refine a_get (v := .int (σ.1.1 0 56)) i_Mo_isFrame_6 rfl rfl ?_
      refine a_ict i_Mo_isFrame_9 (Int32.not_lt.mp h1) ?_
      refine a_iconst i_Mo_isFrame_16 ?_
      refine am_ret_z ok_Mo_isFrame rfl rfl (Or.inl rfl) ⟨?_, rfl⟩
      rw [hasM, if_neg (fun h => h1 h.2)]
def cntM (σ : am_S) (q : Int32) : Int32 := if σ.1.1 0 5 = 0 then -1 else if q = 0 then σ.1.1 0 9 else if q = 1 then σ.1.1 0 21 else if q = 2 then σ.1.1 0 22 else if q = 3 then σ.1.1 0 33 else if q = 4 then σ.1.1 0 38 else if q = 5 then σ.1.1 0 54 else -1
theorem m_count {σ : am_S} {q : Int32} : am_Mt S_m M_Mo_count [.ref 0, .int q] σ (fun r σ' => r = some (.int (cntM σ q)) ∧ σ' = am_fi σ 0 1 0) := by
  refine am_M_of ok_Mo_count (Nat.le_of_ble_eq_true rfl) ?_
  by_cases h0 : σ.1.1 0 5 = 0
  · refine a_aload_n i_Mo_count_0 rfl ?_
    refine a_iconst i_Mo_count_1 ?_
    refine a_puti i_Mo_count_2 rfl trivial ?_
    refine a_aload_n i_Mo_count_5 rfl ?_
    refine a_get (v := .int (σ.1.1 0 5)) i_Mo_count_6 rfl rfl ?_
    refine a_iff i_Mo_count_9 h0 ?_
    refine a_iconst i_Mo_count_12 ?_
    exact am_ret_i ok_Mo_count rfl rfl ⟨by rw [cntM, if_pos h0], rfl⟩
  · by_cases e0 : q = 0
    · subst e0
      refine a_aload_n i_Mo_count_0 rfl ?_
      refine a_iconst i_Mo_count_1 ?_
      refine a_puti i_Mo_count_2 rfl trivial ?_
      refine a_aload_n i_Mo_count_5 rfl ?_
      refine a_get (v := .int (σ.1.1 0 5)) i_Mo_count_6 rfl rfl ?_
      refine a_ift i_Mo_count_9 h0 ?_
      refine a_iload_n i_Mo_count_14 rfl ?_
      refine a_tab 0 i_Mo_count_15 rfl (by decide) (by decide) rfl ?_
      refine a_aload_n i_Mo_count_52 rfl ?_
      refine a_get (v := .int (σ.1.1 0 9)) i_Mo_count_53 rfl rfl ?_
      refine am_ret_i ok_Mo_count rfl rfl ⟨?_, rfl⟩
      simp [cntM, h0]
    · by_cases e1 : q = 1
      · subst e1
        refine a_aload_n i_Mo_count_0 rfl ?_
        refine a_iconst i_Mo_count_1 ?_
        refine a_puti i_Mo_count_2 rfl trivial ?_
        refine a_aload_n i_Mo_count_5 rfl ?_
        refine a_get (v := .int (σ.1.1 0 5)) i_Mo_count_6 rfl rfl ?_
        refine a_ift i_Mo_count_9 h0 ?_
        refine a_iload_n i_Mo_count_14 rfl ?_
        refine a_tab 1 i_Mo_count_15 rfl (by decide) (by decide) rfl ?_
        refine a_aload_n i_Mo_count_57 rfl ?_
        refine a_get (v := .int (σ.1.1 0 21)) i_Mo_count_58 rfl rfl ?_
        refine am_ret_i ok_Mo_count rfl rfl ⟨?_, rfl⟩
        simp [cntM, h0]
      · by_cases e2 : q = 2
        · subst e2
          refine a_aload_n i_Mo_count_0 rfl ?_
          refine a_iconst i_Mo_count_1 ?_
          refine a_puti i_Mo_count_2 rfl trivial ?_
          refine a_aload_n i_Mo_count_5 rfl ?_
          refine a_get (v := .int (σ.1.1 0 5)) i_Mo_count_6 rfl rfl ?_
          refine a_ift i_Mo_count_9 h0 ?_
          refine a_iload_n i_Mo_count_14 rfl ?_
          refine a_tab 2 i_Mo_count_15 rfl (by decide) (by decide) rfl ?_
          refine a_aload_n i_Mo_count_62 rfl ?_
          refine a_get (v := .int (σ.1.1 0 22)) i_Mo_count_63 rfl rfl ?_
          refine am_ret_i ok_Mo_count rfl rfl ⟨?_, rfl⟩
          simp [cntM, h0]
        · by_cases e3 : q = 3
          · subst e3
            refine a_aload_n i_Mo_count_0 rfl ?_
            refine a_iconst i_Mo_count_1 ?_
            refine a_puti i_Mo_count_2 rfl trivial ?_
            refine a_aload_n i_Mo_count_5 rfl ?_
            refine a_get (v := .int (σ.1.1 0 5)) i_Mo_count_6 rfl rfl ?_
            refine a_ift i_Mo_count_9 h0 ?_
            refine a_iload_n i_Mo_count_14 rfl ?_
            refine a_tab 3 i_Mo_count_15 rfl (by decide) (by decide) rfl ?_
            refine a_aload_n i_Mo_count_67 rfl ?_
            refine a_get (v := .int (σ.1.1 0 33)) i_Mo_count_68 rfl rfl ?_
            refine am_ret_i ok_Mo_count rfl rfl ⟨?_, rfl⟩
            simp [cntM, h0]
          · by_cases e4 : q = 4
            · subst e4
              refine a_aload_n i_Mo_count_0 rfl ?_
              refine a_iconst i_Mo_count_1 ?_
              refine a_puti i_Mo_count_2 rfl trivial ?_
              refine a_aload_n i_Mo_count_5 rfl ?_
              refine a_get (v := .int (σ.1.1 0 5)) i_Mo_count_6 rfl rfl ?_
              refine a_ift i_Mo_count_9 h0 ?_
              refine a_iload_n i_Mo_count_14 rfl ?_
              refine a_tab 4 i_Mo_count_15 rfl (by decide) (by decide) rfl ?_
              refine a_aload_n i_Mo_count_72 rfl ?_
              refine a_get (v := .int (σ.1.1 0 38)) i_Mo_count_73 rfl rfl ?_
              refine am_ret_i ok_Mo_count rfl rfl ⟨?_, rfl⟩
              simp [cntM, h0]
            · by_cases e5 : q = 5
              · subst e5
                refine a_aload_n i_Mo_count_0 rfl ?_
                refine a_iconst i_Mo_count_1 ?_
                refine a_puti i_Mo_count_2 rfl trivial ?_
                refine a_aload_n i_Mo_count_5 rfl ?_
                refine a_get (v := .int (σ.1.1 0 5)) i_Mo_count_6 rfl rfl ?_
                refine a_ift i_Mo_count_9 h0 ?_
                refine a_iload_n i_Mo_count_14 rfl ?_
                refine a_tab 5 i_Mo_count_15 rfl (by decide) (by decide) rfl ?_
                refine a_aload_n i_Mo_count_77 rfl ?_
                refine a_get (v := .int (σ.1.1 0 54)) i_Mo_count_78 rfl rfl ?_
                refine am_ret_i ok_Mo_count rfl rfl ⟨?_, rfl⟩
                simp [cntM, h0]
              · have hd : q.toInt < 0 ∨ 5 < q.toInt := by
                  have f0 : q.toInt ≠ 0 := lv_neT e0 rfl
                  have f1 : q.toInt ≠ 1 := lv_neT e1 rfl
                  have f2 : q.toInt ≠ 2 := lv_neT e2 rfl
                  have f3 : q.toInt ≠ 3 := lv_neT e3 rfl
                  have f4 : q.toInt ≠ 4 := lv_neT e4 rfl
                  have f5 : q.toInt ≠ 5 := lv_neT e5 rfl
                  omega
                refine a_aload_n i_Mo_count_0 rfl ?_
                refine a_iconst i_Mo_count_1 ?_
                refine a_puti i_Mo_count_2 rfl trivial ?_
                refine a_aload_n i_Mo_count_5 rfl ?_
                refine a_get (v := .int (σ.1.1 0 5)) i_Mo_count_6 rfl rfl ?_
                refine a_ift i_Mo_count_9 h0 ?_
                refine a_iload_n i_Mo_count_14 rfl ?_
                refine a_tabd i_Mo_count_15 hd rfl ?_
                refine a_iconst i_Mo_count_82 ?_
                refine am_ret_i ok_Mo_count rfl rfl ⟨?_, rfl⟩
                simp [cntM, h0, e0, e1, e2, e3, e4, e5]
def bM (x : Int64) (i : Nat) : Int32 := vp_nar .byte ((x >>> ((8 * nI i).toInt64 &&& 63)).toInt32.toInt8.toInt32)
def ldM (σ : am_S) (x : Int64) (len : Nat) : Nat → am_S
  | 0 => σ
  | i + 1 => am_fi (am_ai (ldM σ x len i) 2 (len + i) (bM x i)) 0 3 (nI (len + i + 1))
theorem ldM_s {σ : am_S} {x : Int64} {len : Nat} (h : σ.1.1 0 3 = nI len) : ∀ i, (ldM σ x len i).1.1 0 3 = nI (len + i)
  | 0 => h
  | i + 1 => rfl
theorem m_load_no {σ : am_S} {n : Int32} {x : Int64} (h : n < 1 ∨ 8 < n ∨ 3000 < σ.1.1 0 3 + n) : am_Mt S_m M_Mo_load [.ref 0, .int n, .long x] σ (fun r σ' => r = some (.int 0) ∧ σ' = am_fi σ 0 1 0) := by
  refine am_M_of ok_Mo_load (Nat.le_of_ble_eq_true rfl) ?_
  by_cases h1 : n < 1
  · refine a_aload_n i_Mo_load_0 rfl ?_
    refine a_iconst i_Mo_load_1 ?_
    refine a_puti i_Mo_load_2 rfl trivial ?_
    refine a_iload_n i_Mo_load_5 rfl ?_
    refine a_iconst i_Mo_load_6 ?_
    refine a_ict i_Mo_load_7 h1 ?_
    refine a_iconst i_Mo_load_28 ?_
    exact am_ret_z ok_Mo_load rfl rfl (Or.inl rfl) ⟨rfl, rfl⟩
  · by_cases h2 : 8 < n
    · refine a_aload_n i_Mo_load_0 rfl ?_
      refine a_iconst i_Mo_load_1 ?_
      refine a_puti i_Mo_load_2 rfl trivial ?_
      refine a_iload_n i_Mo_load_5 rfl ?_
      refine a_iconst i_Mo_load_6 ?_
      refine a_icf i_Mo_load_7 h1 ?_
      refine a_iload_n i_Mo_load_10 rfl ?_
      refine a_bipush i_Mo_load_11 ?_
      refine a_ict i_Mo_load_13 h2 ?_
      refine a_iconst i_Mo_load_28 ?_
      exact am_ret_z ok_Mo_load rfl rfl (Or.inl rfl) ⟨rfl, rfl⟩
    · refine a_aload_n i_Mo_load_0 rfl ?_
      refine a_iconst i_Mo_load_1 ?_
      refine a_puti i_Mo_load_2 rfl trivial ?_
      refine a_iload_n i_Mo_load_5 rfl ?_
      refine a_iconst i_Mo_load_6 ?_
      refine a_icf i_Mo_load_7 h1 ?_
      refine a_iload_n i_Mo_load_10 rfl ?_
      refine a_bipush i_Mo_load_11 ?_
      refine a_icf i_Mo_load_13 h2 ?_
      refine a_aload_n i_Mo_load_16 rfl ?_
      refine a_get (v := .int (σ.1.1 0 3)) i_Mo_load_17 rfl rfl ?_
      refine a_iload_n i_Mo_load_20 rfl ?_
      refine a_iadd i_Mo_load_21 ?_
      refine a_sipush i_Mo_load_22 ?_
      refine a_icf i_Mo_load_25 (by show ¬ σ.1.1 0 3 + n ≤ 3000; rw [Int32.not_le]; exact (h.resolve_left h1).resolve_left h2) ?_
      refine a_iconst i_Mo_load_28 ?_
      exact am_ret_z ok_Mo_load rfl rfl (Or.inl rfl) ⟨rfl, rfl⟩
theorem m_load {σ : am_S} {m len : Nat} {x : Int64} (hl : σ.1.1 0 3 = nI len) (h1 : 1 ≤ m) (h8 : m ≤ 8) (h3 : len + m ≤ 3000) : am_Mt S_m M_Mo_load [.ref 0, .int (nI m), .long x] σ (fun r σ' => r = some (.int 1) ∧ σ' = fgM (ldM (am_fi σ 0 1 0) x len m)) := by
  refine am_M_of ok_Mo_load (Nat.le_of_ble_eq_true rfl) ?_
  refine a_aload_n i_Mo_load_0 rfl ?_
  refine a_iconst i_Mo_load_1 ?_
  refine a_puti i_Mo_load_2 rfl trivial ?_
  refine a_iload_n i_Mo_load_5 rfl ?_
  refine a_iconst i_Mo_load_6 ?_
  refine a_icf i_Mo_load_7 (nI_nlt (a := m) (b := 1) h1 (by omega)) ?_
  refine a_iload_n i_Mo_load_10 rfl ?_
  refine a_bipush i_Mo_load_11 ?_
  refine a_icf i_Mo_load_13 (nI_nlt (a := 8) (b := m) h8 (by decide)) ?_
  refine a_aload_n i_Mo_load_16 rfl ?_
  refine a_get (v := .int (σ.1.1 0 3)) i_Mo_load_17 rfl rfl ?_
  refine a_iload_n i_Mo_load_20 rfl ?_
  refine a_iadd i_Mo_load_21 ?_
  refine a_sipush i_Mo_load_22 ?_
  refine a_ict i_Mo_load_25 (by show σ.1.1 0 3 + nI m ≤ nI 3000; rw [hl, nI_add]; exact nI_le (by omega) (by omega)) ?_
  refine a_iconst i_Mo_load_30 ?_
  refine a_istore i_Mo_load_31 rfl ?_
  have hs := ldM_s (σ := am_fi σ 0 1 0) (x := x) hl
  have key : ∀ j i, i + j = m → am_A S_m M_Mo_load (33, [some (.ref 0), some (.int (nI m)), some (.long x), none, some (.int (nI i))], [], ldM (am_fi σ 0 1 0) x len i) (am_r S_m (fun r σ' => r = some (.int 1) ∧ σ' = fgM (ldM (am_fi σ 0 1 0) x len m))) := by
    intro j
    induction j with
    | zero =>
      intro i hi
      have e : i = m := by omega
      subst e
      refine a_iload i_Mo_load_33 rfl ?_
      refine a_iload_n i_Mo_load_35 rfl ?_
      refine a_ict i_Mo_load_36 (nI_le (Nat.le_refl _) (by omega)) ?_
      refine a_aload_n i_Mo_load_73 rfl ?_
      refine am_cv (rest := []) [] c_Mo_load_74 ⟨by decide, _, rfl⟩ rfl (Nat.le_of_ble_eq_true rfl) (m_forget) (fun r9 σ9 h9 => ?_)
      obtain ⟨rfl, rfl⟩ := h9
      refine a_iconst i_Mo_load_77 ?_
      exact am_ret_z ok_Mo_load rfl rfl (Or.inr rfl) ⟨rfl, rfl⟩
    | succ j ih =>
      intro i hi
      refine a_iload i_Mo_load_33 rfl ?_
      refine a_iload_n i_Mo_load_35 rfl ?_
      refine a_icf i_Mo_load_36 (nI_ge (a := i) (b := m) (by omega) (by omega)) ?_
      refine a_aload_n i_Mo_load_39 rfl ?_
      refine a_get (v := .ref 2) i_Mo_load_40 rfl rfl ?_
      refine a_aload_n i_Mo_load_43 rfl ?_
      refine a_get (v := .int ((ldM (am_fi σ 0 1 0) x len i).1.1 0 3)) i_Mo_load_44 rfl rfl ?_
      refine a_lload_n i_Mo_load_47 rfl ?_
      refine a_bipush i_Mo_load_48 ?_
      refine a_iload i_Mo_load_50 rfl ?_
      refine a_imul i_Mo_load_52 ?_
      refine a_lshr i_Mo_load_53 ?_
      refine a_l2i i_Mo_load_54 ?_
      refine a_i2b i_Mo_load_55 ?_
      refine a_bas (n := 3000) i_Mo_load_56 rfl rfl (by rw [hs]; exact vp_in_nI (by omega) (by decide)) ?_
      refine a_aload_n i_Mo_load_57 rfl ?_
      refine a_dup_a i_Mo_load_58 ?_
      refine a_get (v := .int ((ldM (am_fi σ 0 1 0) x len i).1.1 0 3)) i_Mo_load_59 rfl rfl ?_
      refine a_iconst i_Mo_load_62 ?_
      refine a_iadd i_Mo_load_63 ?_
      refine a_puti i_Mo_load_64 rfl trivial ?_
      refine a_iinc i_Mo_load_67 rfl rfl ?_
      refine a_goto i_Mo_load_70 ?_
      rw [hs, nI_clamp (by omega), nI_1, nI_1]
      exact ih (i + 1) (by omega)
  exact key m 0 (by omega)
theorem m_find_no {σ : am_S} {x : Int64} (h : σ.1.1 0 5 = 0) : am_Mt S_m M_Mo_find [.ref 0, .long x] σ (fun r σ' => r = some (.int 0) ∧ σ' = am_fi σ 0 1 1) := by
  refine am_M_of ok_Mo_find (Nat.le_of_ble_eq_true rfl) ?_
  refine a_aload_n i_Mo_find_0 rfl ?_
  refine a_aload_n i_Mo_find_1 rfl ?_
  refine a_get (v := .int (σ.1.1 0 5)) i_Mo_find_2 rfl rfl ?_
  refine a_ift i_Mo_find_5 h ?_
  refine a_iconst i_Mo_find_12 ?_
  refine a_puti i_Mo_find_13 rfl trivial ?_
  refine a_aload_n i_Mo_find_16 rfl ?_
  refine a_get (v := .int (σ.1.1 0 5)) i_Mo_find_17 rfl rfl ?_
  refine a_iff i_Mo_find_20 h ?_
  refine a_iconst i_Mo_find_23 ?_
  exact am_ret_i ok_Mo_find rfl rfl ⟨rfl, rfl⟩
theorem m_name_no {σ : am_S} {i k : Int32} (h : ¬ (0 ≤ i ∧ i < σ.1.1 0 56)) : am_Mt S_m M_Mo_name [.ref 0, .int i, .int k] σ (fun r σ' => r = some (.int (-1)) ∧ σ' = am_fi σ 0 1 0) := by
  refine am_M_of ok_Mo_name (Nat.le_of_ble_eq_true rfl) ?_
  refine a_aload_n i_Mo_name_0 rfl ?_
  refine a_iconst i_Mo_name_1 ?_
  refine a_puti i_Mo_name_2 rfl trivial ?_
  refine a_aload_n i_Mo_name_5 rfl ?_
  refine a_iload_n i_Mo_name_6 rfl ?_
  refine am_cv (rest := []) [.int i] c_Mo_name_7 ⟨by decide, _, rfl⟩ rfl (Nat.le_of_ble_eq_true rfl) (m_isFrame) (fun r9 σ9 h9 => ?_)
  obtain ⟨rfl, rfl⟩ := h9
  have h2 : hasM (am_fi σ 0 1 0) i = 0 := if_neg h
  refine a_ift i_Mo_name_10 h2 ?_
  refine a_iconst i_Mo_name_26 ?_
  exact am_ret_i ok_Mo_name rfl rfl ⟨rfl, rfl⟩
theorem m_file_no {σ : am_S} {i k : Int32} (h : ¬ (0 ≤ i ∧ i < σ.1.1 0 56)) : am_Mt S_m M_Mo_file [.ref 0, .int i, .int k] σ (fun r σ' => r = some (.int (-1)) ∧ σ' = am_fi σ 0 1 0) := by
  refine am_M_of ok_Mo_file (Nat.le_of_ble_eq_true rfl) ?_
  refine a_aload_n i_Mo_file_0 rfl ?_
  refine a_iconst i_Mo_file_1 ?_
  refine a_puti i_Mo_file_2 rfl trivial ?_
  refine a_aload_n i_Mo_file_5 rfl ?_
  refine a_iload_n i_Mo_file_6 rfl ?_
  refine am_cv (rest := []) [.int i] c_Mo_file_7 ⟨by decide, _, rfl⟩ rfl (Nat.le_of_ble_eq_true rfl) (m_isFrame) (fun r9 σ9 h9 => ?_)
  obtain ⟨rfl, rfl⟩ := h9
  have h2 : hasM (am_fi σ 0 1 0) i = 0 := if_neg h
  refine a_ift i_Mo_file_10 h2 ?_
  refine a_iconst i_Mo_file_20 ?_
  exact am_ret_i ok_Mo_file rfl rfl ⟨rfl, rfl⟩
theorem m_line_no {σ : am_S} {i : Int32} (h : ¬ (0 ≤ i ∧ i < σ.1.1 0 56)) : am_Mt S_m M_Mo_line [.ref 0, .int i] σ (fun r σ' => r = some (.int (-1)) ∧ σ' = am_fi σ 0 1 0) := by
  refine am_M_of ok_Mo_line (Nat.le_of_ble_eq_true rfl) ?_
  refine a_aload_n i_Mo_line_0 rfl ?_
  refine a_iconst i_Mo_line_1 ?_
  refine a_puti i_Mo_line_2 rfl trivial ?_
  refine a_aload_n i_Mo_line_5 rfl ?_
  refine a_iload_n i_Mo_line_6 rfl ?_
  refine am_cv (rest := []) [.int i] c_Mo_line_7 ⟨by decide, _, rfl⟩ rfl (Nat.le_of_ble_eq_true rfl) (m_isFrame) (fun r9 σ9 h9 => ?_)
  obtain ⟨rfl, rfl⟩ := h9
  have h2 : hasM (am_fi σ 0 1 0) i = 0 := if_neg h
  refine a_iff i_Mo_line_10 h2 ?_
  refine a_iconst i_Mo_line_13 ?_
  exact am_ret_i ok_Mo_line rfl rfl ⟨rfl, rfl⟩
theorem m_isHead_no {σ : am_S} (h : σ.1.1 0 3 < 64) : am_Mt S_m M_Mo_isHead [.ref 0] σ (fun r σ' => r = some (.int 0) ∧ σ' = σ) := by
  refine am_M_of ok_Mo_isHead (Nat.le_of_ble_eq_true rfl) ?_
  refine a_aload_n i_Mo_isHead_0 rfl ?_
  refine a_get (v := .int (σ.1.1 0 3)) i_Mo_isHead_1 rfl rfl ?_
  refine a_bipush i_Mo_isHead_4 ?_
  refine a_ict i_Mo_isHead_6 h ?_
  refine a_iconst i_Mo_isHead_76 ?_
  exact am_ret_z ok_Mo_isHead rfl rfl (Or.inl rfl) ⟨rfl, rfl⟩
theorem m_readSections_no {σ : am_S} (h : σ.1.1 0 3 < 64) : am_Mt S_m M_Mo_readSections [.ref 0] σ (fun r σ' => r = some (.int 0) ∧ σ' = σ) := by
  refine am_M_of ok_Mo_readSections (Nat.le_of_ble_eq_true rfl) ?_
  refine a_aload_n i_Mo_readSections_0 rfl ?_
  refine am_cv (rest := []) [] c_Mo_readSections_1 ⟨by decide, _, rfl⟩ rfl (Nat.le_of_ble_eq_true rfl) (m_isHead_no h) (fun r9 σ9 h9 => ?_)
  obtain ⟨rfl, rfl⟩ := h9
  refine a_iff i_Mo_readSections_4 rfl ?_
  refine a_iconst i_Mo_readSections_7 ?_
  exact am_ret_z ok_Mo_readSections rfl rfl (Or.inl rfl) ⟨rfl, rfl⟩
def opM0 (σ : am_S) : am_S := am_fi (am_fi (am_fi (am_fi (am_fi (fgM σ) 0 9 0) 0 21 0) 0 22 0) 0 33 0) 0 38 0
def opM1 (σ : am_S) : am_S := am_fi (am_fi (am_fi (opM0 σ) 0 4 1) 0 5 0) 0 1 1
theorem m_open_no {σ : am_S} (h : σ.1.1 0 3 < 64) : am_Mt S_m M_Mo_open [.ref 0] σ (fun r σ' => r = some (.int 0) ∧ σ' = opM1 σ) := by
  refine am_M_of ok_Mo_open (Nat.le_of_ble_eq_true rfl) ?_
  refine a_aload_n i_Mo_open_0 rfl ?_
  refine am_cv (rest := []) [] c_Mo_open_1 ⟨by decide, _, rfl⟩ rfl (Nat.le_of_ble_eq_true rfl) (m_forget) (fun r9 σ9 h9 => ?_)
  obtain ⟨rfl, rfl⟩ := h9
  refine a_aload_n i_Mo_open_4 rfl ?_
  refine a_iconst i_Mo_open_5 ?_
  refine a_puti i_Mo_open_6 rfl trivial ?_
  refine a_aload_n i_Mo_open_9 rfl ?_
  refine a_iconst i_Mo_open_10 ?_
  refine a_puti i_Mo_open_11 rfl trivial ?_
  refine a_aload_n i_Mo_open_14 rfl ?_
  refine a_iconst i_Mo_open_15 ?_
  refine a_puti i_Mo_open_16 rfl trivial ?_
  refine a_aload_n i_Mo_open_19 rfl ?_
  refine a_iconst i_Mo_open_20 ?_
  refine a_puti i_Mo_open_21 rfl trivial ?_
  refine a_aload_n i_Mo_open_24 rfl ?_
  refine a_iconst i_Mo_open_25 ?_
  refine a_puti i_Mo_open_26 rfl trivial ?_
  refine a_aload_n i_Mo_open_29 rfl ?_
  refine a_aload_n i_Mo_open_30 rfl ?_
  refine am_cv (rest := [.ref 0]) [] c_Mo_open_31 ⟨by decide, _, rfl⟩ rfl (Nat.le_of_ble_eq_true rfl) (m_readSections_no h) (fun r9 σ9 h9 => ?_)
  obtain ⟨rfl, rfl⟩ := h9
  refine a_iff i_Mo_open_34 rfl ?_
  refine a_iconst i_Mo_open_37 ?_
  refine a_goto i_Mo_open_38 ?_
  refine a_puti i_Mo_open_86 rfl trivial ?_
  refine a_aload_n i_Mo_open_89 rfl ?_
  refine a_aload_n i_Mo_open_90 rfl ?_
  refine a_get (v := .int 1) i_Mo_open_91 rfl rfl ?_
  refine a_ift i_Mo_open_94 (by show ¬ (1 : Int32) = 0; decide) ?_
  refine a_iconst i_Mo_open_101 ?_
  refine a_puti i_Mo_open_102 rfl (Or.inl rfl) ?_
  refine a_aload_n i_Mo_open_105 rfl ?_
  refine a_aload_n i_Mo_open_106 rfl ?_
  refine a_get (v := .int 0) i_Mo_open_107 rfl rfl ?_
  refine a_ift i_Mo_open_110 rfl ?_
  refine a_iconst i_Mo_open_117 ?_
  refine a_puti i_Mo_open_118 rfl trivial ?_
  refine a_aload_n i_Mo_open_121 rfl ?_
  refine a_get (v := .int 0) i_Mo_open_122 rfl rfl ?_
  refine a_ift i_Mo_open_125 rfl ?_
  refine a_iconst i_Mo_open_135 ?_
  exact am_ret_i ok_Mo_open rfl rfl ⟨rfl, rfl⟩
end
