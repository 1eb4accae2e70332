/-! a byte of a word, as both sides write it -/
theorem bv_sh (y : BitVec 64) (c : Nat) (hc : c ≤ 56) : ((y >>> c).signExtend 32).signExtend 8 = ((y.sshiftRight c).signExtend 32).signExtend 8 := by
  apply BitVec.eq_of_getLsbD_eq
  intro j hj
  simp only [BitVec.getLsbD_signExtend, BitVec.getLsbD_ushiftRight, BitVec.getLsbD_sshiftRight]
  rw [if_pos (show j < 32 by omega), if_pos (show j < 64 by omega), if_pos (show j < 32 by omega), if_pos (show j < 64 by omega)]
  have h1 : ¬ 64 ≤ j := by omega
  simp [h1, show c + j < 64 by omega]
theorem by_shift (x : Int64) (i : Nat) (hi : i < 8) : (((x.toUInt64 >>> ((8 * nI i).toInt64.toUInt64 &&& Int64.toUInt64 63)).toInt64).toInt32).toInt8 = ((x >>> ((8 * nI i).toInt64 &&& 63)).toInt32).toInt8 := by
  apply Int8.toBitVec_inj.mp
  match i, hi with
  | 0, _ => exact bv_sh x.toBitVec 0 (by decide)
  | 1, _ => exact bv_sh x.toBitVec 8 (by decide)
  | 2, _ => exact bv_sh x.toBitVec 16 (by decide)
  | 3, _ => exact bv_sh x.toBitVec 24 (by decide)
  | 4, _ => exact bv_sh x.toBitVec 32 (by decide)
  | 5, _ => exact bv_sh x.toBitVec 40 (by decide)
  | 6, _ => exact bv_sh x.toBitVec 48 (by decide)
  | 7, _ => exact bv_sh x.toBitVec 56 (by decide)
  | n + 8, h => omega
theorem bCM (x : Int64) (i : Nat) (hi : i < 8) : bC x i = bM x i := by
  unfold bC bM
  rw [by_shift x i hi]
