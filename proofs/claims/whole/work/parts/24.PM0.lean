/-! ===== the bytes of a long ===== -/
def pm_byte (v : Int64) (i : Nat) : Nat := ((v.toBitVec >>> (8 * i)) &&& 255#64).toNat
theorem pm_byte_lt (v : Int64) (i : Nat) : pm_byte v i < 256 := by
  unfold pm_byte
  rw [BitVec.toNat_and]
  exact Nat.lt_of_le_of_lt Nat.and_le_right (by decide)
theorem byte_bv (x : BitVec 64) : (x.setWidth 32 &&& 255#32) = BitVec.ofNat 32 ((x &&& 255#64).toNat) := by
  apply BitVec.eq_of_toNat_eq
  rw [BitVec.toNat_and, BitVec.toNat_and, BitVec.toNat_ofNat, BitVec.toNat_setWidth]
  show x.toNat % 2 ^ 32 &&& 255 = (x.toNat &&& 255) % 2 ^ 32
  rw [show (255 : Nat) = 2 ^ 8 - 1 from rfl, Nat.and_two_pow_sub_one_eq_mod, Nat.and_two_pow_sub_one_eq_mod]
  omega
theorem byte_u {v : Int64} {i : Nat} (hi : i < 8) : ((v.toUInt64 >>> ((nI (8 * i)).toInt64.toUInt64 &&& Int64.toUInt64 63)).toInt64).toInt32 &&& nI 255 = nI (pm_byte v i) := by
  have hs : ((nI (8 * i)).toInt64.toUInt64 &&& Int64.toUInt64 63) = UInt64.ofNat (8 * i) := by
    have : ∀ i, i < 8 → ((nI (8 * i)).toInt64.toUInt64 &&& Int64.toUInt64 63) = UInt64.ofNat (8 * i) := by decide +kernel
    exact this i hi
  rw [hs]
  apply Int32.toBitVec_inj.mp
  have h1 : (v.toUInt64 >>> UInt64.ofNat (8 * i)).toBitVec = v.toBitVec >>> (8 * i) := by
    rw [UInt64.toBitVec_shiftRight]
    have hm : ∀ i, i < 8 → ((UInt64.ofNat (8 * i)).toBitVec % 64).toNat = 8 * i := by decide +kernel
    show v.toBitVec >>> ((UInt64.ofNat (8 * i)).toBitVec % 64).toNat = _
    rw [hm i hi]
  show ((v.toUInt64 >>> UInt64.ofNat (8 * i)).toBitVec.signExtend 32 &&& 255#32) = BitVec.ofNat 32 (pm_byte v i)
  rw [h1, BitVec.signExtend_eq_setWidth_of_le _ (by decide)]
  exact byte_bv _
theorem byte_s {v : Int64} {i : Nat} (hi : i < 8) : (v >>> ((nI (8 * i)).toInt64 &&& 63)).toInt32 &&& nI 255 = nI (pm_byte v i) := by
  have hs : ((nI (8 * i)).toInt64 &&& 63) = Int64.ofNat (8 * i) := by
    have : ∀ i, i < 8 → ((nI (8 * i)).toInt64 &&& 63) = Int64.ofNat (8 * i) := by decide +kernel
    exact this i hi
  rw [hs]
  apply Int32.toBitVec_inj.mp
  have h1 : (v >>> Int64.ofNat (8 * i)).toBitVec = v.toBitVec.sshiftRight (8 * i) := by
    have hm : ∀ i, i < 8 → ((Int64.ofNat (8 * i)).toBitVec.smod 64).toNat = 8 * i := by decide +kernel
    show v.toBitVec.sshiftRight ((Int64.ofNat (8 * i)).toBitVec.smod 64).toNat = _
    rw [hm i hi]
  have h2 : v.toBitVec.sshiftRight (8 * i) &&& 255#64 = v.toBitVec >>> (8 * i) &&& 255#64 := by
    apply BitVec.eq_of_getLsbD_eq
    intro j hj
    rw [BitVec.getLsbD_and, BitVec.getLsbD_and]
    by_cases h8 : j < 8
    · rw [BitVec.getLsbD_sshiftRight, BitVec.getLsbD_ushiftRight, if_pos (by omega)]
      simp only [hj, decide_true, Bool.not_true, Bool.not_false, Bool.true_and, show ¬ (64 ≤ j) by omega, decide_false]
    · have : (255#64).getLsbD j = false := by
        rw [BitVec.getLsbD_ofNat]
        have : Nat.testBit 255 j = false := by
          rw [show (255 : Nat) = 2 ^ 8 - 1 from rfl, Nat.testBit_two_pow_sub_one]
          simpa using h8
        rw [this, Bool.and_false]
      rw [this, Bool.and_false, Bool.and_false]
  show ((v >>> Int64.ofNat (8 * i)).toBitVec.signExtend 32 &&& 255#32) = BitVec.ofNat 32 (pm_byte v i)
  rw [h1, BitVec.signExtend_eq_setWidth_of_le _ (by decide), byte_bv, h2]
  rfl
