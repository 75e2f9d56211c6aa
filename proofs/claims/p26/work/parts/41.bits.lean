theorem sh8 (w : Int64) : (Int64.toUInt64 w >>> ((Int32.toInt64 (8 : Int32)).toUInt64 &&& Int64.toUInt64 63)).toInt64.toBitVec.toNat = w.toBitVec.toNat / 256 := by
  have e : (Int64.toUInt64 w >>> ((Int32.toInt64 (8 : Int32)).toUInt64 &&& Int64.toUInt64 63)).toInt64.toBitVec = w.toBitVec >>> 8 := by
    exact UInt64.toBitVec_shiftRight _ _
  rw [e, BitVec.toNat_ushiftRight, Nat.shiftRight_eq_div_pow]
theorem cmp0 (w : Int64) : lg_cmp w 0 = 0 ↔ w.toBitVec.toNat = 0 := by
  have h : w = 0 ↔ w.toBitVec.toNat = 0 := by
    constructor
    · rintro rfl; decide
    · intro e
      apply Int64.toBitVec_inj.mp
      apply BitVec.eq_of_toNat_eq
      rw [e]; decide
  rw [← h]
  unfold lg_cmp
  by_cases h1 : w > 0
  · rw [if_pos h1]
    exact ⟨fun e => absurd e (by decide), fun e => by rw [e] at h1; exact absurd h1 (by decide)⟩
  · rw [if_neg h1]
    by_cases h2 : w = 0
    · rw [if_pos h2]; exact ⟨fun _ => h2, fun _ => rfl⟩
    · rw [if_neg h2]
      exact ⟨fun e => absurd e (by decide), fun e => absurd e h2⟩
theorem land_split (a m : Nat) {b n : Nat} (hb : b < 2 ^ 8) (hn : n < 2 ^ 8) : (2 ^ 8 * a + b) &&& (2 ^ 8 * m + n) = 2 ^ 8 * (a &&& m) + (b &&& n) := by
  apply Nat.eq_of_testBit_eq
  intro j
  rw [Nat.testBit_and, Nat.testBit_two_pow_mul_add _ hb, Nat.testBit_two_pow_mul_add _ hn, Nat.testBit_two_pow_mul_add _ (Nat.lt_of_le_of_lt Nat.and_le_left hb)]
  by_cases h : j < 8
  · rw [if_pos h, if_pos h, if_pos h, Nat.testBit_and]
  · rw [if_neg h, if_neg h, if_neg h, Nat.testBit_and]
def s1n (M x : Nat) : Nat := x - (x / 2 &&& M)
def s2n (M x : Nat) : Nat := (x &&& M) + (x / 4 &&& M)
def s3n (M x : Nat) : Nat := (x + x / 16) &&& M
def pc8 (b : Nat) : Nat := s3n 15 (s2n 51 (s1n 85 b))
theorem s1_tab : ∀ l, l < 256 → (128 + l / 2) &&& 85 = l / 2 &&& 85 := by decide +kernel
theorem s1_lt : ∀ l, l < 256 → l / 2 &&& 85 ≤ l := by decide +kernel
theorem s1_split (a m : Nat) {l : Nat} (hl : l < 256) (hle : a / 2 &&& m ≤ a) : s1n (256 * m + 85) (256 * a + l) = 256 * s1n m a + s1n 85 l := by
  unfold s1n
  have e : (256 * a + l) / 2 &&& (256 * m + 85) = 256 * (a / 2 &&& m) + (l / 2 &&& 85) := by
    have h1 : (256 * a + l) / 2 = 2 ^ 8 * (a / 2) + (128 * (a % 2) + l / 2) := by omega
    rw [h1, land_split _ _ (show 128 * (a % 2) + l / 2 < 2 ^ 8 by omega) (show 85 < 2 ^ 8 by decide)]
    have h2 : a % 2 = 0 ∨ a % 2 = 1 := by omega
    rcases h2 with h2 | h2
    · rw [h2]; simp
    · rw [h2, Nat.mul_one, s1_tab l hl]
  rw [e]
  have := s1_lt l hl
  omega
theorem s2_tab : ∀ r, r < 4 → ∀ l, l < 256 → (64 * r + l / 4) &&& 51 = l / 4 &&& 51 := by decide +kernel
theorem s2_split (a m : Nat) {l : Nat} (hl : l < 256) : s2n (256 * m + 51) (256 * a + l) = 256 * s2n m a + s2n 51 l := by
  unfold s2n
  have e1 : (256 * a + l) &&& (256 * m + 51) = 256 * (a &&& m) + (l &&& 51) := land_split a m hl (by decide)
  have e2 : (256 * a + l) / 4 &&& (256 * m + 51) = 256 * (a / 4 &&& m) + (l / 4 &&& 51) := by
    have h1 : (256 * a + l) / 4 = 2 ^ 8 * (a / 4) + (64 * (a % 4) + l / 4) := by omega
    rw [h1, land_split _ _ (show 64 * (a % 4) + l / 4 < 2 ^ 8 by omega) (show 51 < 2 ^ 8 by decide), s2_tab (a % 4) (by omega) l hl]
  rw [e1, e2]
  omega
theorem s3_tab : ∀ r, r < 5 → ∀ l, l < 103 → (l + l / 16 + 16 * r) &&& 15 = (l + l / 16) &&& 15 := by decide +kernel
theorem s3_split (a m : Nat) {l : Nat} (hl : l < 103) (ha : a % 16 < 5) : s3n (256 * m + 15) (256 * a + l) = 256 * s3n m a + s3n 15 l := by
  unfold s3n
  have h1 : 256 * a + l + (256 * a + l) / 16 = 2 ^ 8 * (a + a / 16) + (l + l / 16 + 16 * (a % 16)) := by omega
  rw [h1, show 256 * m + 15 = 2 ^ 8 * m + 15 from rfl, land_split _ _ (show l + l / 16 + 16 * (a % 16) < 2 ^ 8 by omega) (show 15 < 2 ^ 8 by decide), s3_tab _ ha l hl]
def msk (v : Nat) : Nat → Nat
  | 0 => 0
  | k + 1 => 256 * msk v k + v
def lan (f : Nat → Nat) : Nat → Nat → Nat
  | 0, _ => 0
  | k + 1, x => 256 * lan f k (x / 256) + f (x % 256)
theorem s1n_le (M x : Nat) : x / 2 &&& M ≤ x := Nat.le_trans Nat.and_le_left (Nat.div_le_self _ _)
theorem l1 : ∀ (k x : Nat), x < 256 ^ k → s1n (msk 85 k) x = lan (s1n 85) k x
  | 0, x, h => by
    have : x = 0 := by omega
    subst this; decide
  | k + 1, x, h => by
    have h1 : x / 256 < 256 ^ k := by
      rw [Nat.div_lt_iff_lt_mul (by decide)]; rw [Nat.pow_succ] at h; exact h
    have e : x = 256 * (x / 256) + x % 256 := by omega
    show s1n (256 * msk 85 k + 85) x = 256 * lan (s1n 85) k (x / 256) + s1n 85 (x % 256)
    rw [← l1 k _ h1, ← s1_split _ _ (by omega) (s1n_le _ _), ← e]
theorem t1 : ∀ c, c < 256 → s1n 85 c < 256 := by decide +kernel
theorem t2 : ∀ c, c < 256 → s2n 51 (s1n 85 c) < 103 ∧ s2n 51 (s1n 85 c) % 16 < 5 := by decide +kernel
theorem t3 : ∀ c, c < 256 → pc8 c ≤ 8 := by decide +kernel
theorem l2 : ∀ (k x : Nat), s2n (msk 51 k) (lan (s1n 85) k x) = lan (fun c => s2n 51 (s1n 85 c)) k x
  | 0, x => by show s2n 0 0 = 0; decide
  | k + 1, x => by
    show s2n (256 * msk 51 k + 51) (256 * lan (s1n 85) k (x / 256) + s1n 85 (x % 256)) = 256 * lan (fun c => s2n 51 (s1n 85 c)) k (x / 256) + s2n 51 (s1n 85 (x % 256))
    rw [s2_split _ _ (t1 _ (by omega)), l2 k]
theorem lan16 : ∀ (k x : Nat), lan (fun c => s2n 51 (s1n 85 c)) k x % 16 < 5
  | 0, x => by show 0 % 16 < 5; decide
  | k + 1, x => by
    show (256 * lan (fun c => s2n 51 (s1n 85 c)) k (x / 256) + s2n 51 (s1n 85 (x % 256))) % 16 < 5
    have := (t2 (x % 256) (by omega)).2
    omega
theorem l3 : ∀ (k x : Nat), s3n (msk 15 k) (lan (fun c => s2n 51 (s1n 85 c)) k x) = lan pc8 k x
  | 0, x => by show s3n 0 0 = 0; decide
  | k + 1, x => by
    show s3n (256 * msk 15 k + 15) (256 * lan (fun c => s2n 51 (s1n 85 c)) k (x / 256) + s2n 51 (s1n 85 (x % 256))) = 256 * lan pc8 k (x / 256) + pc8 (x % 256)
    rw [s3_split _ _ (t2 _ (by omega)).1 (lan16 _ _), l3 k]
    rfl
def pcn : Nat → Nat → Nat
  | 0, _ => 0
  | k + 1, x => pcn k (x / 256) + pc8 (x % 256)
theorem fin_b {c0 c1 c2 c3 c4 c5 c6 c7 y z4 z5 z6 : Nat} (h0 : c0 ≤ 8) (h1 : c1 ≤ 8) (h2 : c2 ≤ 8) (h3 : c3 ≤ 8) (h4 : c4 ≤ 8) (h5 : c5 ≤ 8) (h6 : c6 ≤ 8) (h7 : c7 ≤ 8)
    (hy : y = c0 + 256 * c1 + 65536 * c2 + 16777216 * c3 + 4294967296 * c4 + 1099511627776 * c5 + 281474976710656 * c6 + 72057594037927936 * c7) (e4 : z4 = y + y / 256) (e5 : z5 = z4 + z4 / 65536) (e6 : z6 = z5 + z5 / 4294967296) :
    y < 2 ^ 60 ∧ z4 < 2 ^ 61 ∧ z5 < 2 ^ 62 ∧ z6 < 2 ^ 63 ∧ z6 % 128 = c0 + c1 + c2 + c3 + c4 + c5 + c6 + c7 := by
  have a : y / 256 = c1 + 256 * c2 + 65536 * c3 + 16777216 * c4 + 4294967296 * c5 + 1099511627776 * c6 + 281474976710656 * c7 := by omega
  rw [a, hy] at e4
  have b : z4 / 65536 = (c2 + c3) + 256 * (c3 + c4) + 65536 * (c4 + c5) + 16777216 * (c5 + c6) + 4294967296 * (c6 + c7) + 1099511627776 * c7 := by
    clear e5 e6 a hy
    omega
  rw [b] at e5
  have c : z5 / 4294967296 = (c4 + c5 + c6 + c7) + 256 * (c5 + c6 + c7) + 65536 * (c6 + c7) + 16777216 * c7 := by
    clear e6 a hy b
    omega
  rw [c] at e6
  clear a b c
  refine ⟨by omega, by omega, by omega, by omega, ?_⟩
  omega
theorem sh1 (w : Int64) : (Int64.toUInt64 w >>> ((Int32.toInt64 (1 : Int32)).toUInt64 &&& Int64.toUInt64 63)).toInt64.toBitVec.toNat = w.toBitVec.toNat / 2 := by
  have e : (Int64.toUInt64 w >>> ((Int32.toInt64 (1 : Int32)).toUInt64 &&& Int64.toUInt64 63)).toInt64.toBitVec = w.toBitVec >>> 1 := by
    exact UInt64.toBitVec_shiftRight _ _
  rw [e, BitVec.toNat_ushiftRight, Nat.shiftRight_eq_div_pow]
theorem sh2 (w : Int64) : (Int64.toUInt64 w >>> ((Int32.toInt64 (2 : Int32)).toUInt64 &&& Int64.toUInt64 63)).toInt64.toBitVec.toNat = w.toBitVec.toNat / 4 := by
  have e : (Int64.toUInt64 w >>> ((Int32.toInt64 (2 : Int32)).toUInt64 &&& Int64.toUInt64 63)).toInt64.toBitVec = w.toBitVec >>> 2 := by
    exact UInt64.toBitVec_shiftRight _ _
  rw [e, BitVec.toNat_ushiftRight, Nat.shiftRight_eq_div_pow]
theorem sh4 (w : Int64) : (Int64.toUInt64 w >>> ((Int32.toInt64 (4 : Int32)).toUInt64 &&& Int64.toUInt64 63)).toInt64.toBitVec.toNat = w.toBitVec.toNat / 16 := by
  have e : (Int64.toUInt64 w >>> ((Int32.toInt64 (4 : Int32)).toUInt64 &&& Int64.toUInt64 63)).toInt64.toBitVec = w.toBitVec >>> 4 := by
    exact UInt64.toBitVec_shiftRight _ _
  rw [e, BitVec.toNat_ushiftRight, Nat.shiftRight_eq_div_pow]
theorem sh16 (w : Int64) : (Int64.toUInt64 w >>> ((Int32.toInt64 (16 : Int32)).toUInt64 &&& Int64.toUInt64 63)).toInt64.toBitVec.toNat = w.toBitVec.toNat / 65536 := by
  have e : (Int64.toUInt64 w >>> ((Int32.toInt64 (16 : Int32)).toUInt64 &&& Int64.toUInt64 63)).toInt64.toBitVec = w.toBitVec >>> 16 := by
    exact UInt64.toBitVec_shiftRight _ _
  rw [e, BitVec.toNat_ushiftRight, Nat.shiftRight_eq_div_pow]
theorem sh32 (w : Int64) : (Int64.toUInt64 w >>> ((Int32.toInt64 (32 : Int32)).toUInt64 &&& Int64.toUInt64 63)).toInt64.toBitVec.toNat = w.toBitVec.toNat / 4294967296 := by
  have e : (Int64.toUInt64 w >>> ((Int32.toInt64 (32 : Int32)).toUInt64 &&& Int64.toUInt64 63)).toInt64.toBitVec = w.toBitVec >>> 32 := by
    exact UInt64.toBitVec_shiftRight _ _
  rw [e, BitVec.toNat_ushiftRight, Nat.shiftRight_eq_div_pow]
theorem nat_and (a b : Int64) : (a &&& b).toBitVec.toNat = a.toBitVec.toNat &&& b.toBitVec.toNat := by
  rw [Int64.toBitVec_and, BitVec.toNat_and]
theorem nat_add {a b : Int64} (h : a.toBitVec.toNat + b.toBitVec.toNat < 2 ^ 64) : (a + b).toBitVec.toNat = a.toBitVec.toNat + b.toBitVec.toNat := by
  rw [Int64.toBitVec_add, BitVec.toNat_add_of_lt h]
theorem nat_sub {a b : Int64} (h : b.toBitVec.toNat ≤ a.toBitVec.toNat) : (a - b).toBitVec.toNat = a.toBitVec.toNat - b.toBitVec.toNat := by
  rw [Int64.toBitVec_sub, BitVec.toNat_sub_of_le h]
theorem lan_lt {f : Nat → Nat} (hf : ∀ b, b < 256 → f b ≤ 127) : ∀ (k x : Nat), 2 * lan f k x + 1 ≤ 256 ^ k
  | 0, x => by show 2 * 0 + 1 ≤ 1; omega
  | k + 1, x => by
    have ih := lan_lt hf k (x / 256)
    have h1 := hf (x % 256) (by omega)
    show 2 * (256 * lan f k (x / 256) + f (x % 256)) + 1 ≤ 256 ^ (k + 1)
    rw [Nat.pow_succ]
    generalize 256 ^ k = q at *
    omega
theorem bitCount_ok (p0 : Int64) : f_J13_bitCount_95d88 p0 = some (nI (pcn 8 p0.toBitVec.toNat)) := by
  have hx : p0.toBitVec.toNat < 256 ^ 8 := p0.toBitVec.isLt
  unfold f_J13_bitCount_95d88
  obtain ⟨a, ha⟩ : ∃ a, p0 - ((Int64.toUInt64 p0 >>> ((Int32.toInt64 (1 : Int32)).toUInt64 &&& Int64.toUInt64 63)).toInt64 &&& (6148914691236517205 : Int64)) = a := ⟨_, rfl⟩
  rw [ha]
  obtain ⟨b, hb⟩ : ∃ b, (a &&& (3689348814741910323 : Int64)) + ((Int64.toUInt64 a >>> ((Int32.toInt64 (2 : Int32)).toUInt64 &&& Int64.toUInt64 63)).toInt64 &&& (3689348814741910323 : Int64)) = b := ⟨_, rfl⟩
  rw [hb]
  obtain ⟨c, hc⟩ : ∃ c, (b + (Int64.toUInt64 b >>> ((Int32.toInt64 (4 : Int32)).toUInt64 &&& Int64.toUInt64 63)).toInt64) &&& (1085102592571150095 : Int64) = c := ⟨_, rfl⟩
  rw [hc]
  obtain ⟨d, hd⟩ : ∃ d, c + (Int64.toUInt64 c >>> ((Int32.toInt64 (8 : Int32)).toUInt64 &&& Int64.toUInt64 63)).toInt64 = d := ⟨_, rfl⟩
  rw [hd]
  obtain ⟨e, he⟩ : ∃ e, d + (Int64.toUInt64 d >>> ((Int32.toInt64 (16 : Int32)).toUInt64 &&& Int64.toUInt64 63)).toInt64 = e := ⟨_, rfl⟩
  rw [he]
  obtain ⟨f, hf⟩ : ∃ f, e + (Int64.toUInt64 e >>> ((Int32.toInt64 (32 : Int32)).toUInt64 &&& Int64.toUInt64 63)).toInt64 = f := ⟨_, rfl⟩
  rw [hf]
  have na : a.toBitVec.toNat = lan (s1n 85) 8 p0.toBitVec.toNat := by
    rw [← l1 8 _ hx, ← ha]
    have q : ((Int64.toUInt64 p0 >>> ((Int32.toInt64 (1 : Int32)).toUInt64 &&& Int64.toUInt64 63)).toInt64 &&& (6148914691236517205 : Int64)).toBitVec.toNat = p0.toBitVec.toNat / 2 &&& msk 85 8 := by
      rw [nat_and, sh1, show (6148914691236517205 : Int64).toBitVec.toNat = msk 85 8 from by decide +kernel]
    rw [nat_sub (by rw [q]; exact s1n_le _ _), q]
    rfl
  have nb : b.toBitVec.toNat = lan (fun c => s2n 51 (s1n 85 c)) 8 p0.toBitVec.toNat := by
    rw [← l2, ← na, ← hb]
    have q1 : (a &&& (3689348814741910323 : Int64)).toBitVec.toNat = a.toBitVec.toNat &&& msk 51 8 := by
      rw [nat_and, show (3689348814741910323 : Int64).toBitVec.toNat = msk 51 8 from by decide +kernel]
    have q2 : ((Int64.toUInt64 a >>> ((Int32.toInt64 (2 : Int32)).toUInt64 &&& Int64.toUInt64 63)).toInt64 &&& (3689348814741910323 : Int64)).toBitVec.toNat = a.toBitVec.toNat / 4 &&& msk 51 8 := by
      rw [nat_and, sh2, show (3689348814741910323 : Int64).toBitVec.toNat = msk 51 8 from by decide +kernel]
    have q3 : msk 51 8 = 3689348814741910323 := by decide +kernel
    have b1 : a.toBitVec.toNat &&& msk 51 8 ≤ msk 51 8 := Nat.and_le_right
    have b2 : a.toBitVec.toNat / 4 &&& msk 51 8 ≤ msk 51 8 := Nat.and_le_right
    rw [nat_add (by rw [q1, q2]; omega), q1, q2]
    rfl
  have hb2 : 2 * b.toBitVec.toNat + 1 ≤ 256 ^ 8 := by
    rw [nb]
    exact lan_lt (fun b hb => by have := (t2 b hb).1; omega) 8 _
  have nc : c.toBitVec.toNat = lan pc8 8 p0.toBitVec.toNat := by
    rw [← l3, ← nb, ← hc, nat_and, nat_add (by rw [sh4]; omega), sh4, show (1085102592571150095 : Int64).toBitVec.toNat = msk 15 8 from by decide +kernel]
    rfl
  obtain ⟨r0, r1, r2, r3, r4⟩ := fin_b (t3 (p0.toBitVec.toNat % 256) (by omega)) (t3 (p0.toBitVec.toNat / 256 % 256) (by omega)) (t3 (p0.toBitVec.toNat / 256 / 256 % 256) (by omega)) (t3 (p0.toBitVec.toNat / 256 / 256 / 256 % 256) (by omega)) (t3 (p0.toBitVec.toNat / 256 / 256 / 256 / 256 % 256) (by omega)) (t3 (p0.toBitVec.toNat / 256 / 256 / 256 / 256 / 256 % 256) (by omega)) (t3 (p0.toBitVec.toNat / 256 / 256 / 256 / 256 / 256 / 256 % 256) (by omega)) (t3 (p0.toBitVec.toNat / 256 / 256 / 256 / 256 / 256 / 256 / 256 % 256) (by omega)) (y := c.toBitVec.toNat) (by
    rw [nc]
    show 256 * (256 * (256 * (256 * (256 * (256 * (256 * (256 * 0 + _) + _) + _) + _) + _) + _) + _) + _ = _
    omega) rfl rfl rfl
  have nd : d.toBitVec.toNat = c.toBitVec.toNat + c.toBitVec.toNat / 256 := by
    rw [← hd, nat_add (by rw [sh8]; omega), sh8]
  have ne : e.toBitVec.toNat = d.toBitVec.toNat + d.toBitVec.toNat / 65536 := by
    rw [← he, nat_add (by rw [sh16, nd]; omega), sh16]
  have nf : f.toBitVec.toNat = e.toBitVec.toNat + e.toBitVec.toNat / 4294967296 := by
    rw [← hf, nat_add (by rw [sh32, ne, nd]; omega), sh32]
  rw [← nd, ← ne, ← nf] at r4
  have last : (Int64.toInt32 f) &&& (127 : Int32) = nI (f.toBitVec.toNat % 128) := by
    apply Int32.toBitVec_inj.mp
    apply BitVec.eq_of_toNat_eq
    rw [Int32.toBitVec_and, BitVec.toNat_and, show (127 : Int32).toBitVec.toNat = 2 ^ 7 - 1 from by decide, Nat.and_two_pow_sub_one_eq_mod]
    rw [show (Int64.toInt32 f).toBitVec = f.toBitVec.signExtend 32 from rfl, BitVec.signExtend_eq_setWidth_of_le _ (by decide), BitVec.toNat_setWidth]
    show _ = (BitVec.ofNat 32 (f.toBitVec.toNat % 128)).toNat
    rw [BitVec.toNat_ofNat]
    omega
  rw [last, r4]
  congr 2
  show _ = 0 + pc8 (p0.toBitVec.toNat / 256 / 256 / 256 / 256 / 256 / 256 / 256 % 256) + pc8 (p0.toBitVec.toNat / 256 / 256 / 256 / 256 / 256 / 256 % 256) + pc8 (p0.toBitVec.toNat / 256 / 256 / 256 / 256 / 256 % 256) + pc8 (p0.toBitVec.toNat / 256 / 256 / 256 / 256 % 256) + pc8 (p0.toBitVec.toNat / 256 / 256 / 256 % 256) + pc8 (p0.toBitVec.toNat / 256 / 256 % 256) + pc8 (p0.toBitVec.toNat / 256 % 256) + pc8 (p0.toBitVec.toNat % 256)
  omega
theorem pc8_set : ∀ i, i < 8 → ∀ c, c < 256 → c / 2 ^ i % 2 = 0 → c + 2 ^ i < 256 ∧ pc8 (c + 2 ^ i) = pc8 c + 1 := by decide +kernel
theorem pcn_set : ∀ (k i x : Nat), i < 8 * k → x / 2 ^ i % 2 = 0 → pcn k (x + 2 ^ i) = pcn k x + 1
  | 0, i, x, hi, h => by omega
  | k + 1, i, x, hi, h => by
    show pcn k ((x + 2 ^ i) / 256) + pc8 ((x + 2 ^ i) % 256) = pcn k (x / 256) + pc8 (x % 256) + 1
    by_cases h8 : i < 8
    · have h2 : x % 256 / 2 ^ i % 2 = 0 := by
        have hc : i = 0 ∨ i = 1 ∨ i = 2 ∨ i = 3 ∨ i = 4 ∨ i = 5 ∨ i = 6 ∨ i = 7 := by omega
        rcases hc with rfl | rfl | rfl | rfl | rfl | rfl | rfl | rfl <;> omega
      obtain ⟨g1, g2⟩ := pc8_set i h8 (x % 256) (by omega) h2
      generalize 2 ^ i = q at *
      rw [show (x + q) / 256 = x / 256 from by omega, show (x + q) % 256 = x % 256 + q from by omega, g2]
      omega
    · obtain ⟨j, rfl⟩ : ∃ j, i = j + 8 := ⟨i - 8, by omega⟩
      have e : 2 ^ (j + 8) = 256 * 2 ^ j := by rw [Nat.pow_add]; omega
      have h2 : x / 256 / 2 ^ j % 2 = 0 := by
        rw [Nat.div_div_eq_div_mul, ← e]; exact h
      have ih := pcn_set k j (x / 256) (by omega) h2
      rw [e]
      generalize 2 ^ j = q at *
      rw [show (x + 256 * q) / 256 = x / 256 + q from by omega, show (x + 256 * q) % 256 = x % 256 from by omega, ih]
      omega
theorem pcn_0 : ∀ k, pcn k 0 = 0
  | 0 => rfl
  | k + 1 => by
    show pcn k (0 / 256) + pc8 (0 % 256) = 0
    rw [show 0 / 256 = 0 from rfl, pcn_0 k]
    decide
theorem bit_ok (m : Int64) {i : Nat} (hi : i < 60) : ((m >>> (Int32.toInt64 (nI i) &&& 63)) &&& (1 : Int64)).toBitVec.toNat = m.toBitVec.toNat / 2 ^ i % 2 := by
  have hs : (Int32.toInt64 (nI i) &&& (63 : Int64)) = Int64.ofNat i := by
    have : ∀ i, i < 60 → (Int32.toInt64 (nI i) &&& (63 : Int64)) = Int64.ofNat i := by decide +kernel
    exact this i hi
  rw [hs, nat_and, show (1 : Int64).toBitVec.toNat = 2 ^ 1 - 1 from by decide, Nat.and_two_pow_sub_one_eq_mod, Nat.pow_one]
  have h2 : ((Int64.ofNat i).toBitVec.smod 64).toNat = i := by
    have : ∀ i, i < 60 → ((Int64.ofNat i).toBitVec.smod 64).toNat = i := by decide +kernel
    exact this i hi
  have e : (m >>> Int64.ofNat i).toBitVec = m.toBitVec.sshiftRight i := by
    rw [Int64.toBitVec_shiftRight, BitVec.sshiftRight', h2]
  rw [e]
  have g := BitVec.getLsbD_sshiftRight m.toBitVec i 0
  rw [if_pos (by omega)] at g
  have k1 : (m.toBitVec.sshiftRight i).getLsbD 0 = m.toBitVec.getLsbD i := by
    rw [g]; simp
  unfold BitVec.getLsbD at k1
  rw [Nat.testBit_zero, Nat.testBit_eq_decide_div_mod_eq] at k1
  have k2 := decide_eq_decide.mp k1
  omega
theorem isIn_ok (R : Ru) (m : Int64) {i : Nat} (hi : i < 60) : f_X3_isIn R m (nI i) = some (if m.toBitVec.toNat / 2 ^ i % 2 = 1 then 1 else 0) := by
  unfold f_X3_isIn b_X3_isIn_15
  have h := cmp0 ((m >>> (Int32.toInt64 (nI i) &&& 63)) &&& (1 : Int64))
  rw [bit_ok m hi] at h
  by_cases c : m.toBitVec.toNat / 2 ^ i % 2 = 1
  · rw [if_neg (fun q => by have := h.mp q; omega), if_pos c]; exact zb_ok (.inr rfl)
  · rw [if_pos (h.mpr (by omega)), if_neg c]; exact zb_ok (.inl rfl)
theorem one_shl {i : Nat} (hi : i < 60) : ((1 : Int64) <<< (Int32.toInt64 (nI i) &&& 63)).toBitVec.toNat = 2 ^ i := by
  have : ∀ i, i < 60 → ((1 : Int64) <<< (Int32.toInt64 (nI i) &&& 63)).toBitVec.toNat = 2 ^ i := by decide +kernel
  exact this i hi
theorem or_bit (x : Nat) (i : Nat) : x ||| 2 ^ i = if x / 2 ^ i % 2 = 1 then x else x + 2 ^ i := by
  by_cases c : x / 2 ^ i % 2 = 1
  · rw [if_pos c]
    apply Nat.eq_of_testBit_eq
    intro j
    rw [Nat.testBit_or, Nat.testBit_two_pow]
    by_cases e : i = j
    · subst e
      rw [Nat.testBit_eq_decide_div_mod_eq]; simp [c]
    · simp [e]
  · rw [if_neg c]
    have hd : x = 2 ^ (i + 1) * (x / 2 ^ (i + 1)) + x % 2 ^ (i + 1) := (Nat.div_add_mod x _).symm
    have hm : x % 2 ^ (i + 1) < 2 ^ i := by
      have h1 : x % 2 ^ (i + 1) / 2 ^ i = x / 2 ^ i % 2 := by
        rw [Nat.pow_succ, Nat.mod_mul_right_div_self]
      have h2 : x % 2 ^ (i + 1) / 2 ^ i = 0 := by omega
      exact (Nat.div_eq_zero_iff_lt (Nat.two_pow_pos i)).mp h2
    apply Nat.eq_of_testBit_eq
    intro j
    have hlt : x % 2 ^ (i + 1) + 2 ^ i < 2 ^ (i + 1) := by rw [Nat.pow_succ] at *; omega
    have hs : x + 2 ^ i = 2 ^ (i + 1) * (x / 2 ^ (i + 1)) + (x % 2 ^ (i + 1) + 2 ^ i) := by omega
    rw [Nat.testBit_or, hs, Nat.testBit_two_pow_mul_add _ hlt]
    conv => lhs; rw [hd]
    rw [Nat.testBit_two_pow_mul_add _ (Nat.mod_lt _ (Nat.two_pow_pos _)), Nat.testBit_two_pow]
    by_cases hj : j < i + 1
    · rw [if_pos hj, if_pos hj]
      have := Nat.testBit_two_pow_mul_add 1 hm j
      rw [Nat.mul_one, Nat.add_comm] at this
      rw [this]
      by_cases e : j < i
      · rw [if_pos e]
        have : ¬ i = j := by omega
        simp [this]
      · have : i = j := by omega
        subst this
        simp
    · rw [if_neg hj, if_neg hj]
      have : ¬ i = j := by omega
      simp [this]
theorem set_bit (m : Int64) {i : Nat} (hi : i < 60) : (m ||| ((1 : Int64) <<< (Int32.toInt64 (nI i) &&& 63))).toBitVec.toNat = if m.toBitVec.toNat / 2 ^ i % 2 = 1 then m.toBitVec.toNat else m.toBitVec.toNat + 2 ^ i := by
  rw [Int64.toBitVec_or, BitVec.toNat_or, one_shl hi, or_bit]
