theorem by_amt : ∀ k, k < 8 → ((Int32.toInt64 ((8 : Int32) * nI k) &&& (63 : Int64)).toBitVec.smod 64).toNat = 8 * k ∧ ((Int64.toUInt64 (Int32.toInt64 ((8 : Int32) * nI k)) &&& Int64.toUInt64 63).toBitVec % 64#64).toNat = 8 * k := by decide +kernel
theorem bit255 (w i : Nat) : (BitVec.ofNat w 255).getLsbD i = (decide (i < w) && decide (i < 8)) := by
  rw [BitVec.getLsbD_ofNat]
  congr 1
  rw [show (255 : Nat) = 2 ^ 8 - 1 from rfl, Nat.testBit_two_pow_sub_one]
theorem by_same (v : Int64) {k : Nat} (hk : k < 8) : (Int64.toInt32 ((Int64.toUInt64 v >>> (Int64.toUInt64 (Int32.toInt64 ((8 : Int32) * nI k)) &&& Int64.toUInt64 63)).toInt64)) &&& (255 : Int32) = Int64.toInt32 ((v >>> (Int32.toInt64 ((8 : Int32) * nI k) &&& 63)) &&& (255 : Int64)) := by
  obtain ⟨h1, h2⟩ := by_amt k hk
  generalize (Int32.toInt64 ((8 : Int32) * nI k) &&& (63 : Int64)) = s1 at h1 ⊢
  generalize (Int64.toUInt64 (Int32.toInt64 ((8 : Int32) * nI k)) &&& Int64.toUInt64 63) = s2 at h2 ⊢
  apply Int32.toBitVec_inj.1
  apply BitVec.eq_of_getLsbD_eq
  intro i hi
  have e1 : ((Int64.toInt32 ((Int64.toUInt64 v >>> s2).toInt64)) &&& (255 : Int32)).toBitVec = ((v.toBitVec >>> (s2.toBitVec % 64#64)).signExtend 32) &&& 255#32 := rfl
  have e2 : (Int64.toInt32 ((v >>> s1) &&& (255 : Int64))).toBitVec = ((v.toBitVec.sshiftRight' (s1.toBitVec.smod 64)) &&& 255#64).signExtend 32 := rfl
  rw [e1, e2, BitVec.getLsbD_and, BitVec.getLsbD_signExtend, BitVec.getLsbD_signExtend, BitVec.getLsbD_and, bit255, bit255, BitVec.sshiftRight', BitVec.getLsbD_sshiftRight, h1]
  rw [show (v.toBitVec >>> (s2.toBitVec % 64#64)) = v.toBitVec >>> (8 * k) from by rw [← h2]; rfl, BitVec.getLsbD_ushiftRight]
  have hi64 : i < 64 := by omega
  rw [if_pos hi64]
  simp only [hi, hi64, decide_true, Bool.true_and, show ¬ 64 ≤ i by omega, decide_false, Bool.not_false, if_true]
  by_cases h8 : i < 8
  · rw [if_pos (by omega : 8 * k + i < 64)]
  · simp only [h8, decide_false, Bool.and_false]
