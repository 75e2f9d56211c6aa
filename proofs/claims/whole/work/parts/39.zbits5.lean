theorem one_shl {i : Nat} (hi : i < 60) : ((1 : Int64) <<< (Int32.toInt64 (nI i) &&& 63)).toBitVec.toNat = 2 ^ i := by
  have : ∀ i, i < 60 → ((1 : Int64) <<< (Int32.toInt64 (nI i) &&& 63)).toBitVec.toNat = 2 ^ i := by decide +kernel
  exact this i hi
theorem or_bit (x : Nat) (i : Nat) : x ||| 2 ^ i = if x / 2 ^ i % 2 = 1 then x else x + 2 ^ i := by
  by_cases c : x / 2 ^ i % 2 = 1
  · rw [if_pos c]
    apply Nat.eq_of_testBit_eq
    intro j
    rw [Nat.testBit_or, Nat.testBit_two_pow]
    by_cases e : i = j
    · subst e
      rw [Nat.testBit_eq_decide_div_mod_eq]; simp [c]
    · simp [e]
  · rw [if_neg c]
    have hd : x = 2 ^ (i + 1) * (x / 2 ^ (i + 1)) + x % 2 ^ (i + 1) := (Nat.div_add_mod x _).symm
    have hm : x % 2 ^ (i + 1) < 2 ^ i := by
      have h1 : x % 2 ^ (i + 1) / 2 ^ i = x / 2 ^ i % 2 := by
        rw [Nat.pow_succ, Nat.mod_mul_right_div_self]
      have h2 : x % 2 ^ (i + 1) / 2 ^ i = 0 := by omega
      exact (Nat.div_eq_zero_iff_lt (Nat.two_pow_pos i)).mp h2
    apply Nat.eq_of_testBit_eq
    intro j
    have hlt : x % 2 ^ (i + 1) + 2 ^ i < 2 ^ (i + 1) := by rw [Nat.pow_succ] at *; omega
    have hs : x + 2 ^ i = 2 ^ (i + 1) * (x / 2 ^ (i + 1)) + (x % 2 ^ (i + 1) + 2 ^ i) := by omega
    rw [Nat.testBit_or, hs, Nat.testBit_two_pow_mul_add _ hlt]
    conv => lhs; rw [hd]
    rw [Nat.testBit_two_pow_mul_add _ (Nat.mod_lt _ (Nat.two_pow_pos _)), Nat.testBit_two_pow]
    by_cases hj : j < i + 1
    · rw [if_pos hj, if_pos hj]
      have := Nat.testBit_two_pow_mul_add 1 hm j
      rw [Nat.mul_one, Nat.add_comm] at this
      rw [this]
      by_cases e : j < i
      · rw [if_pos e]
        have : ¬ i = j := by omega
        simp [this]
      · have : i = j := by omega
        subst this
        simp
    · rw [if_neg hj, if_neg hj]
      have : ¬ i = j := by omega
      simp [this]
theorem set_bit (m : Int64) {i : Nat} (hi : i < 60) : (m ||| ((1 : Int64) <<< (Int32.toInt64 (nI i) &&& 63))).toBitVec.toNat = if m.toBitVec.toNat / 2 ^ i % 2 = 1 then m.toBitVec.toNat else m.toBitVec.toNat + 2 ^ i := by
  rw [Int64.toBitVec_or, BitVec.toNat_or, one_shl hi, or_bit]
