theorem land_split (a m : Nat) {b n : Nat} (hb : b < 2 ^ 8) (hn : n < 2 ^ 8) : (2 ^ 8 * a + b) &&& (2 ^ 8 * m + n) = 2 ^ 8 * (a &&& m) + (b &&& n) := by
  apply Nat.eq_of_testBit_eq
  intro j
  rw [Nat.testBit_and, Nat.testBit_two_pow_mul_add _ hb, Nat.testBit_two_pow_mul_add _ hn, Nat.testBit_two_pow_mul_add _ (Nat.lt_of_le_of_lt Nat.and_le_left hb)]
  by_cases h : j < 8
  · rw [if_pos h, if_pos h, if_pos h, Nat.testBit_and]
  · rw [if_neg h, if_neg h, if_neg h, Nat.testBit_and]
/-- the first three steps of the counting of bits -/
def s1n (M x : Nat) : Nat := x - (x / 2 &&& M)
def s2n (M x : Nat) : Nat := (x &&& M) + (x / 4 &&& M)
def s3n (M x : Nat) : Nat := (x + x / 16) &&& M
def pc8 (b : Nat) : Nat := s3n 15 (s2n 51 (s1n 85 b))
theorem s1_tab : ∀ l, l < 256 → (128 + l / 2) &&& 85 = l / 2 &&& 85 := by decide +kernel
theorem s1_lt : ∀ l, l < 256 → l / 2 &&& 85 ≤ l := by decide +kernel
theorem s1_split (a m : Nat) {l : Nat} (hl : l < 256) (hle : a / 2 &&& m ≤ a) : s1n (256 * m + 85) (256 * a + l) = 256 * s1n m a + s1n 85 l := by
  unfold s1n
  have e : (256 * a + l) / 2 &&& (256 * m + 85) = 256 * (a / 2 &&& m) + (l / 2 &&& 85) := by
    have h1 : (256 * a + l) / 2 = 2 ^ 8 * (a / 2) + (128 * (a % 2) + l / 2) := by omega
    rw [h1, land_split _ _ (show 128 * (a % 2) + l / 2 < 2 ^ 8 by omega) (show 85 < 2 ^ 8 by decide)]
    have h2 : a % 2 = 0 ∨ a % 2 = 1 := by omega
    rcases h2 with h2 | h2
    · rw [h2]; simp
    · rw [h2, Nat.mul_one, s1_tab l hl]
  rw [e]
  have := s1_lt l hl
  omega
theorem s2_tab : ∀ r, r < 4 → ∀ l, l < 256 → (64 * r + l / 4) &&& 51 = l / 4 &&& 51 := by decide +kernel
theorem s2_split (a m : Nat) {l : Nat} (hl : l < 256) : s2n (256 * m + 51) (256 * a + l) = 256 * s2n m a + s2n 51 l := by
  unfold s2n
  have e1 : (256 * a + l) &&& (256 * m + 51) = 256 * (a &&& m) + (l &&& 51) := land_split a m hl (by decide)
  have e2 : (256 * a + l) / 4 &&& (256 * m + 51) = 256 * (a / 4 &&& m) + (l / 4 &&& 51) := by
    have h1 : (256 * a + l) / 4 = 2 ^ 8 * (a / 4) + (64 * (a % 4) + l / 4) := by omega
    rw [h1, land_split _ _ (show 64 * (a % 4) + l / 4 < 2 ^ 8 by omega) (show 51 < 2 ^ 8 by decide), s2_tab (a % 4) (by omega) l hl]
  rw [e1, e2]
  omega
theorem s3_tab : ∀ r, r < 5 → ∀ l, l < 103 → (l + l / 16 + 16 * r) &&& 15 = (l + l / 16) &&& 15 := by decide +kernel
theorem s3_split (a m : Nat) {l : Nat} (hl : l < 103) (ha : a % 16 < 5) : s3n (256 * m + 15) (256 * a + l) = 256 * s3n m a + s3n 15 l := by
  unfold s3n
  have h1 : 256 * a + l + (256 * a + l) / 16 = 2 ^ 8 * (a + a / 16) + (l + l / 16 + 16 * (a % 16)) := by omega
  rw [h1, show 256 * m + 15 = 2 ^ 8 * m + 15 from rfl, land_split _ _ (show l + l / 16 + 16 * (a % 16) < 2 ^ 8 by omega) (show 15 < 2 ^ 8 by decide), s3_tab _ ha l hl]
def msk (v : Nat) : Nat → Nat
  | 0 => 0
  | k + 1 => 256 * msk v k + v
def lan (f : Nat → Nat) : Nat → Nat → Nat
  | 0, _ => 0
  | k + 1, x => 256 * lan f k (x / 256) + f (x % 256)
theorem s1n_le (M x : Nat) : x / 2 &&& M ≤ x := Nat.le_trans Nat.and_le_left (Nat.div_le_self _ _)
theorem l1 : ∀ (k x : Nat), x < 256 ^ k → s1n (msk 85 k) x = lan (s1n 85) k x
  | 0, x, h => by
    have : x = 0 := by omega
    subst this; decide
  | k + 1, x, h => by
    have h1 : x / 256 < 256 ^ k := by
      rw [Nat.div_lt_iff_lt_mul (by decide)]; rw [Nat.pow_succ] at h; exact h
    have e : x = 256 * (x / 256) + x % 256 := by omega
    show s1n (256 * msk 85 k + 85) x = 256 * lan (s1n 85) k (x / 256) + s1n 85 (x % 256)
    rw [← l1 k _ h1, ← s1_split _ _ (by omega) (s1n_le _ _), ← e]
theorem t1 : ∀ c, c < 256 → s1n 85 c < 256 := by decide +kernel
theorem t2 : ∀ c, c < 256 → s2n 51 (s1n 85 c) < 103 ∧ s2n 51 (s1n 85 c) % 16 < 5 := by decide +kernel
theorem t3 : ∀ c, c < 256 → pc8 c ≤ 8 := by decide +kernel
theorem l2 : ∀ (k x : Nat), s2n (msk 51 k) (lan (s1n 85) k x) = lan (fun c => s2n 51 (s1n 85 c)) k x
  | 0, x => by show s2n 0 0 = 0; decide
  | k + 1, x => by
    show s2n (256 * msk 51 k + 51) (256 * lan (s1n 85) k (x / 256) + s1n 85 (x % 256)) = 256 * lan (fun c => s2n 51 (s1n 85 c)) k (x / 256) + s2n 51 (s1n 85 (x % 256))
    rw [s2_split _ _ (t1 _ (by omega)), l2 k]
theorem lan16 : ∀ (k x : Nat), lan (fun c => s2n 51 (s1n 85 c)) k x % 16 < 5
  | 0, x => by show 0 % 16 < 5; decide
  | k + 1, x => by
    show (256 * lan (fun c => s2n 51 (s1n 85 c)) k (x / 256) + s2n 51 (s1n 85 (x % 256))) % 16 < 5
    have := (t2 (x % 256) (by omega)).2
    omega
theorem l3 : ∀ (k x : Nat), s3n (msk 15 k) (lan (fun c => s2n 51 (s1n 85 c)) k x) = lan pc8 k x
  | 0, x => by show s3n 0 0 = 0; decide
  | k + 1, x => by
    show s3n (256 * msk 15 k + 15) (256 * lan (fun c => s2n 51 (s1n 85 c)) k (x / 256) + s2n 51 (s1n 85 (x % 256))) = 256 * lan pc8 k (x / 256) + pc8 (x % 256)
    rw [s3_split _ _ (t2 _ (by omega)).1 (lan16 _ _), l3 k]
    rfl
def pcn : Nat → Nat → Nat
  | 0, _ => 0
  | k + 1, x => pcn k (x / 256) + pc8 (x % 256)
theorem fin_b {c0 c1 c2 c3 c4 c5 c6 c7 y z4 z5 z6 : Nat} (h0 : c0 ≤ 8) (h1 : c1 ≤ 8) (h2 : c2 ≤ 8) (h3 : c3 ≤ 8) (h4 : c4 ≤ 8) (h5 : c5 ≤ 8) (h6 : c6 ≤ 8) (h7 : c7 ≤ 8)
    (hy : y = c0 + 256 * c1 + 65536 * c2 + 16777216 * c3 + 4294967296 * c4 + 1099511627776 * c5 + 281474976710656 * c6 + 72057594037927936 * c7) (e4 : z4 = y + y / 256) (e5 : z5 = z4 + z4 / 65536) (e6 : z6 = z5 + z5 / 4294967296) :
    y < 2 ^ 60 ∧ z4 < 2 ^ 61 ∧ z5 < 2 ^ 62 ∧ z6 < 2 ^ 63 ∧ z6 % 128 = c0 + c1 + c2 + c3 + c4 + c5 + c6 + c7 := by
  have a : y / 256 = c1 + 256 * c2 + 65536 * c3 + 16777216 * c4 + 4294967296 * c5 + 1099511627776 * c6 + 281474976710656 * c7 := by omega
  rw [a, hy] at e4
  have b : z4 / 65536 = (c2 + c3) + 256 * (c3 + c4) + 65536 * (c4 + c5) + 16777216 * (c5 + c6) + 4294967296 * (c6 + c7) + 1099511627776 * c7 := by
    clear e5 e6 a hy
    omega
  rw [b] at e5
  have c : z5 / 4294967296 = (c4 + c5 + c6 + c7) + 256 * (c5 + c6 + c7) + 65536 * (c6 + c7) + 16777216 * c7 := by
    clear e6 a hy b
    omega
  rw [c] at e6
  clear a b c
  refine ⟨by omega, by omega, by omega, by omega, ?_⟩
  omega
