theorem bit_ok (m : Int64) {i : Nat} (hi : i < 60) : ((m >>> (Int32.toInt64 (nI i) &&& 63)) &&& (1 : Int64)).toBitVec.toNat = m.toBitVec.toNat / 2 ^ i % 2 := by
  have hs : (Int32.toInt64 (nI i) &&& (63 : Int64)) = Int64.ofNat i := by
    have : ∀ i, i < 60 → (Int32.toInt64 (nI i) &&& (63 : Int64)) = Int64.ofNat i := by decide +kernel
    exact this i hi
  rw [hs, nat_and, show (1 : Int64).toBitVec.toNat = 2 ^ 1 - 1 from by decide, Nat.and_two_pow_sub_one_eq_mod, Nat.pow_one]
  have h2 : ((Int64.ofNat i).toBitVec.smod 64).toNat = i := by
    have : ∀ i, i < 60 → ((Int64.ofNat i).toBitVec.smod 64).toNat = i := by decide +kernel
    exact this i hi
  have e : (m >>> Int64.ofNat i).toBitVec = m.toBitVec.sshiftRight i := by
    rw [Int64.toBitVec_shiftRight, BitVec.sshiftRight', h2]
  rw [e]
  have g := BitVec.getLsbD_sshiftRight m.toBitVec i 0
  rw [if_pos (by omega)] at g
  have k1 : (m.toBitVec.sshiftRight i).getLsbD 0 = m.toBitVec.getLsbD i := by
    rw [g]; simp
  unfold BitVec.getLsbD at k1
  rw [Nat.testBit_zero, Nat.testBit_eq_decide_div_mod_eq] at k1
  have k2 := decide_eq_decide.mp k1
  omega
theorem isIn_ok (R : Ru) (m : Int64) {i : Nat} (hi : i < 60) : f_X3_isIn R m (nI i) = some (if m.toBitVec.toNat / 2 ^ i % 2 = 1 then 1 else 0) := by
  unfold f_X3_isIn b_X3_isIn_15
  have h := cmp0 ((m >>> (Int32.toInt64 (nI i) &&& 63)) &&& (1 : Int64))
  rw [bit_ok m hi] at h
  by_cases c : m.toBitVec.toNat / 2 ^ i % 2 = 1
  · rw [if_neg (fun q => by have := h.mp q; omega), if_pos c]; exact zb_ok (.inr rfl)
  · rw [if_pos (h.mpr (by omega)), if_neg c]; exact zb_ok (.inl rfl)
