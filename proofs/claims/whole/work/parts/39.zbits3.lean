theorem pc8_set : ∀ i, i < 8 → ∀ c, c < 256 → c / 2 ^ i % 2 = 0 → c + 2 ^ i < 256 ∧ pc8 (c + 2 ^ i) = pc8 c + 1 := by decide +kernel
theorem pcn_set : ∀ (k i x : Nat), i < 8 * k → x / 2 ^ i % 2 = 0 → pcn k (x + 2 ^ i) = pcn k x + 1
  | 0, i, x, hi, h => by omega
  | k + 1, i, x, hi, h => by
    show pcn k ((x + 2 ^ i) / 256) + pc8 ((x + 2 ^ i) % 256) = pcn k (x / 256) + pc8 (x % 256) + 1
    by_cases h8 : i < 8
    · have h2 : x % 256 / 2 ^ i % 2 = 0 := by
        have hc : i = 0 ∨ i = 1 ∨ i = 2 ∨ i = 3 ∨ i = 4 ∨ i = 5 ∨ i = 6 ∨ i = 7 := by omega
        rcases hc with rfl | rfl | rfl | rfl | rfl | rfl | rfl | rfl <;> omega
      obtain ⟨g1, g2⟩ := pc8_set i h8 (x % 256) (by omega) h2
      generalize 2 ^ i = q at *
      rw [show (x + q) / 256 = x / 256 from by omega, show (x + q) % 256 = x % 256 + q from by omega, g2]
      omega
    · obtain ⟨j, rfl⟩ : ∃ j, i = j + 8 := ⟨i - 8, by omega⟩
      have e : 2 ^ (j + 8) = 256 * 2 ^ j := by rw [Nat.pow_add]; omega
      have h2 : x / 256 / 2 ^ j % 2 = 0 := by
        rw [Nat.div_div_eq_div_mul, ← e]; exact h
      have ih := pcn_set k j (x / 256) (by omega) h2
      rw [e]
      generalize 2 ^ j = q at *
      rw [show (x + 256 * q) / 256 = x / 256 + q from by omega, show (x + 256 * q) % 256 = x % 256 from by omega, ih]
      omega
theorem pcn_0 : ∀ k, pcn k 0 = 0
  | 0 => rfl
  | k + 1 => by
    show pcn k (0 / 256) + pc8 (0 % 256) = 0
    rw [show 0 / 256 = 0 from rfl, pcn_0 k]
    decide
