theorem jf_a1 : ∀ k, k < 64 → ((nI k).toInt64 &&& 63) = lN k := by decide +kernel
theorem jf_a2 : ∀ k, k < 64 → ((nI k).toInt64.toUInt64 &&& Int64.toUInt64 63) = UInt64.ofNat k := by decide +kernel
theorem jf_s1 : ∀ k, k < 64 → (lN k).toBitVec.smod 64 = BitVec.ofNat 64 k := by decide +kernel
theorem jf_255 : ∀ i, i < 64 → (255 : BitVec 64).getLsbD i = decide (i < 8) := by decide +kernel
theorem jf_255' : ∀ i, i < 32 → (255 : BitVec 32).getLsbD i = decide (i < 8) := by decide +kernel
theorem jf_eq (w : Int64) {k : Nat} (hk : k ≤ 56) : ((w >>> ((nI k).toInt64 &&& 63)) &&& 255).toInt32 = (w.toUInt64 >>> ((nI k).toInt64.toUInt64 &&& Int64.toUInt64 63)).toInt64.toInt32 &&& 255 := by
  rw [jf_a1 k (by omega), jf_a2 k (by omega)]
  apply Int32.toBitVec_inj.mp
  apply BitVec.eq_of_getLsbD_eq
  intro i hi
  have e1 : (w >>> lN k).toBitVec = w.toBitVec.sshiftRight k := by
    show w.toBitVec.sshiftRight' ((lN k).toBitVec.smod 64) = _
    rw [jf_s1 k (by omega)]
    show w.toBitVec.sshiftRight (BitVec.ofNat 64 k).toNat = _
    rw [BitVec.toNat_ofNat, Nat.mod_eq_of_lt (by omega)]
  have e2 : (w.toUInt64 >>> UInt64.ofNat k).toInt64.toBitVec = w.toBitVec >>> k := by
    show w.toBitVec >>> ((UInt64.ofNat k).toBitVec % 64#64) = _
    have : ((UInt64.ofNat k).toBitVec % 64#64).toNat = k := by
      rw [BitVec.toNat_umod]
      show (BitVec.ofNat 64 k).toNat % 64 = k
      rw [BitVec.toNat_ofNat, Nat.mod_eq_of_lt (show k < 2 ^ 64 by omega), Nat.mod_eq_of_lt (by omega)]
    rw [BitVec.ushiftRight_eq', this]
  show (((w >>> lN k) &&& 255).toBitVec.signExtend 32).getLsbD i = ((w.toUInt64 >>> UInt64.ofNat k).toInt64.toBitVec.signExtend 32 &&& 255).getLsbD i
  rw [BitVec.signExtend_eq_setWidth_of_le _ (by decide), BitVec.signExtend_eq_setWidth_of_le _ (by decide), BitVec.getLsbD_and, BitVec.getLsbD_setWidth, BitVec.getLsbD_setWidth, e2]
  show (decide (i < 32) && ((w >>> lN k).toBitVec &&& 255).getLsbD i) = _
  rw [BitVec.getLsbD_and, e1, jf_255 i (by omega), jf_255' i hi, BitVec.getLsbD_sshiftRight, BitVec.getLsbD_ushiftRight]
  by_cases h8 : i < 8
  · have a : k + i < 64 := by omega
    simp [h8, hi, a, show ¬ 64 ≤ i by omega]
  · simp [h8]
