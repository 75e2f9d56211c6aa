/-! Long.bitCount counts the bits -/
theorem sh1 (w : Int64) : (Int64.toUInt64 w >>> ((Int32.toInt64 (1 : Int32)).toUInt64 &&& Int64.toUInt64 63)).toInt64.toBitVec.toNat = w.toBitVec.toNat / 2 := by
  have e : (Int64.toUInt64 w >>> ((Int32.toInt64 (1 : Int32)).toUInt64 &&& Int64.toUInt64 63)).toInt64.toBitVec = w.toBitVec >>> 1 := by
    exact UInt64.toBitVec_shiftRight _ _
  rw [e, BitVec.toNat_ushiftRight, Nat.shiftRight_eq_div_pow]
theorem sh2 (w : Int64) : (Int64.toUInt64 w >>> ((Int32.toInt64 (2 : Int32)).toUInt64 &&& Int64.toUInt64 63)).toInt64.toBitVec.toNat = w.toBitVec.toNat / 4 := by
  have e : (Int64.toUInt64 w >>> ((Int32.toInt64 (2 : Int32)).toUInt64 &&& Int64.toUInt64 63)).toInt64.toBitVec = w.toBitVec >>> 2 := by
    exact UInt64.toBitVec_shiftRight _ _
  rw [e, BitVec.toNat_ushiftRight, Nat.shiftRight_eq_div_pow]
theorem sh4 (w : Int64) : (Int64.toUInt64 w >>> ((Int32.toInt64 (4 : Int32)).toUInt64 &&& Int64.toUInt64 63)).toInt64.toBitVec.toNat = w.toBitVec.toNat / 16 := by
  have e : (Int64.toUInt64 w >>> ((Int32.toInt64 (4 : Int32)).toUInt64 &&& Int64.toUInt64 63)).toInt64.toBitVec = w.toBitVec >>> 4 := by
    exact UInt64.toBitVec_shiftRight _ _
  rw [e, BitVec.toNat_ushiftRight, Nat.shiftRight_eq_div_pow]
theorem sh16 (w : Int64) : (Int64.toUInt64 w >>> ((Int32.toInt64 (16 : Int32)).toUInt64 &&& Int64.toUInt64 63)).toInt64.toBitVec.toNat = w.toBitVec.toNat / 65536 := by
  have e : (Int64.toUInt64 w >>> ((Int32.toInt64 (16 : Int32)).toUInt64 &&& Int64.toUInt64 63)).toInt64.toBitVec = w.toBitVec >>> 16 := by
    exact UInt64.toBitVec_shiftRight _ _
  rw [e, BitVec.toNat_ushiftRight, Nat.shiftRight_eq_div_pow]
theorem sh32 (w : Int64) : (Int64.toUInt64 w >>> ((Int32.toInt64 (32 : Int32)).toUInt64 &&& Int64.toUInt64 63)).toInt64.toBitVec.toNat = w.toBitVec.toNat / 4294967296 := by
  have e : (Int64.toUInt64 w >>> ((Int32.toInt64 (32 : Int32)).toUInt64 &&& Int64.toUInt64 63)).toInt64.toBitVec = w.toBitVec >>> 32 := by
    exact UInt64.toBitVec_shiftRight _ _
  rw [e, BitVec.toNat_ushiftRight, Nat.shiftRight_eq_div_pow]
theorem nat_and (a b : Int64) : (a &&& b).toBitVec.toNat = a.toBitVec.toNat &&& b.toBitVec.toNat := by
  rw [Int64.toBitVec_and, BitVec.toNat_and]
theorem nat_add {a b : Int64} (h : a.toBitVec.toNat + b.toBitVec.toNat < 2 ^ 64) : (a + b).toBitVec.toNat = a.toBitVec.toNat + b.toBitVec.toNat := by
  rw [Int64.toBitVec_add, BitVec.toNat_add_of_lt h]
theorem nat_sub {a b : Int64} (h : b.toBitVec.toNat ≤ a.toBitVec.toNat) : (a - b).toBitVec.toNat = a.toBitVec.toNat - b.toBitVec.toNat := by
  rw [Int64.toBitVec_sub, BitVec.toNat_sub_of_le h]
theorem lan_lt {f : Nat → Nat} (hf : ∀ b, b < 256 → f b ≤ 127) : ∀ (k x : Nat), 2 * lan f k x + 1 ≤ 256 ^ k
  | 0, x => by show 2 * 0 + 1 ≤ 1; omega
  | k + 1, x => by
    have ih := lan_lt hf k (x / 256)
    have h1 := hf (x % 256) (by omega)
    show 2 * (256 * lan f k (x / 256) + f (x % 256)) + 1 ≤ 256 ^ (k + 1)
    rw [Nat.pow_succ]
    generalize 256 ^ k = q at *
    omega
theorem bitCount_ok (p0 : Int64) : f_J13_bitCount_95d88 p0 = some (nI (pcn 8 p0.toBitVec.toNat)) := by
  have hx : p0.toBitVec.toNat < 256 ^ 8 := p0.toBitVec.isLt
  unfold f_J13_bitCount_95d88
  obtain ⟨a, ha⟩ : ∃ a, p0 - ((Int64.toUInt64 p0 >>> ((Int32.toInt64 (1 : Int32)).toUInt64 &&& Int64.toUInt64 63)).toInt64 &&& (6148914691236517205 : Int64)) = a := ⟨_, rfl⟩
  rw [ha]
  obtain ⟨b, hb⟩ : ∃ b, (a &&& (3689348814741910323 : Int64)) + ((Int64.toUInt64 a >>> ((Int32.toInt64 (2 : Int32)).toUInt64 &&& Int64.toUInt64 63)).toInt64 &&& (3689348814741910323 : Int64)) = b := ⟨_, rfl⟩
  rw [hb]
  obtain ⟨c, hc⟩ : ∃ c, (b + (Int64.toUInt64 b >>> ((Int32.toInt64 (4 : Int32)).toUInt64 &&& Int64.toUInt64 63)).toInt64) &&& (1085102592571150095 : Int64) = c := ⟨_, rfl⟩
  rw [hc]
  obtain ⟨d, hd⟩ : ∃ d, c + (Int64.toUInt64 c >>> ((Int32.toInt64 (8 : Int32)).toUInt64 &&& Int64.toUInt64 63)).toInt64 = d := ⟨_, rfl⟩
  rw [hd]
  obtain ⟨e, he⟩ : ∃ e, d + (Int64.toUInt64 d >>> ((Int32.toInt64 (16 : Int32)).toUInt64 &&& Int64.toUInt64 63)).toInt64 = e := ⟨_, rfl⟩
  rw [he]
  obtain ⟨f, hf⟩ : ∃ f, e + (Int64.toUInt64 e >>> ((Int32.toInt64 (32 : Int32)).toUInt64 &&& Int64.toUInt64 63)).toInt64 = f := ⟨_, rfl⟩
  rw [hf]
  have na : a.toBitVec.toNat = lan (s1n 85) 8 p0.toBitVec.toNat := by
    rw [← l1 8 _ hx, ← ha]
    have q : ((Int64.toUInt64 p0 >>> ((Int32.toInt64 (1 : Int32)).toUInt64 &&& Int64.toUInt64 63)).toInt64 &&& (6148914691236517205 : Int64)).toBitVec.toNat = p0.toBitVec.toNat / 2 &&& msk 85 8 := by
      rw [nat_and, sh1, show (6148914691236517205 : Int64).toBitVec.toNat = msk 85 8 from by decide +kernel]
    rw [nat_sub (by rw [q]; exact s1n_le _ _), q]
    rfl
  have nb : b.toBitVec.toNat = lan (fun c => s2n 51 (s1n 85 c)) 8 p0.toBitVec.toNat := by
    rw [← l2, ← na, ← hb]
    have q1 : (a &&& (3689348814741910323 : Int64)).toBitVec.toNat = a.toBitVec.toNat &&& msk 51 8 := by
      rw [nat_and, show (3689348814741910323 : Int64).toBitVec.toNat = msk 51 8 from by decide +kernel]
    have q2 : ((Int64.toUInt64 a >>> ((Int32.toInt64 (2 : Int32)).toUInt64 &&& Int64.toUInt64 63)).toInt64 &&& (3689348814741910323 : Int64)).toBitVec.toNat = a.toBitVec.toNat / 4 &&& msk 51 8 := by
      rw [nat_and, sh2, show (3689348814741910323 : Int64).toBitVec.toNat = msk 51 8 from by decide +kernel]
    have q3 : msk 51 8 = 3689348814741910323 := by decide +kernel
    have b1 : a.toBitVec.toNat &&& msk 51 8 ≤ msk 51 8 := Nat.and_le_right
    have b2 : a.toBitVec.toNat / 4 &&& msk 51 8 ≤ msk 51 8 := Nat.and_le_right
    rw [nat_add (by rw [q1, q2]; omega), q1, q2]
    rfl
  have hb2 : 2 * b.toBitVec.toNat + 1 ≤ 256 ^ 8 := by
    rw [nb]
    exact lan_lt (fun b hb => by have := (t2 b hb).1; omega) 8 _
  have nc : c.toBitVec.toNat = lan pc8 8 p0.toBitVec.toNat := by
    rw [← l3, ← nb, ← hc, nat_and, nat_add (by rw [sh4]; omega), sh4, show (1085102592571150095 : Int64).toBitVec.toNat = msk 15 8 from by decide +kernel]
    rfl
  obtain ⟨r0, r1, r2, r3, r4⟩ := fin_b (t3 (p0.toBitVec.toNat % 256) (by omega)) (t3 (p0.toBitVec.toNat / 256 % 256) (by omega)) (t3 (p0.toBitVec.toNat / 256 / 256 % 256) (by omega)) (t3 (p0.toBitVec.toNat / 256 / 256 / 256 % 256) (by omega)) (t3 (p0.toBitVec.toNat / 256 / 256 / 256 / 256 % 256) (by omega)) (t3 (p0.toBitVec.toNat / 256 / 256 / 256 / 256 / 256 % 256) (by omega)) (t3 (p0.toBitVec.toNat / 256 / 256 / 256 / 256 / 256 / 256 % 256) (by omega)) (t3 (p0.toBitVec.toNat / 256 / 256 / 256 / 256 / 256 / 256 / 256 % 256) (by omega)) (y := c.toBitVec.toNat) (by
    rw [nc]
    show 256 * (256 * (256 * (256 * (256 * (256 * (256 * (256 * 0 + _) + _) + _) + _) + _) + _) + _) + _ = _
    omega) rfl rfl rfl
  have nd : d.toBitVec.toNat = c.toBitVec.toNat + c.toBitVec.toNat / 256 := by
    rw [← hd, nat_add (by rw [sh8]; omega), sh8]
  have ne : e.toBitVec.toNat = d.toBitVec.toNat + d.toBitVec.toNat / 65536 := by
    rw [← he, nat_add (by rw [sh16, nd]; omega), sh16]
  have nf : f.toBitVec.toNat = e.toBitVec.toNat + e.toBitVec.toNat / 4294967296 := by
    rw [← hf, nat_add (by rw [sh32, ne, nd]; omega), sh32]
  rw [← nd, ← ne, ← nf] at r4
  have last : (Int64.toInt32 f) &&& (127 : Int32) = nI (f.toBitVec.toNat % 128) := by
    apply Int32.toBitVec_inj.mp
    apply BitVec.eq_of_toNat_eq
    rw [Int32.toBitVec_and, BitVec.toNat_and, show (127 : Int32).toBitVec.toNat = 2 ^ 7 - 1 from by decide, Nat.and_two_pow_sub_one_eq_mod]
    rw [show (Int64.toInt32 f).toBitVec = f.toBitVec.signExtend 32 from rfl, BitVec.signExtend_eq_setWidth_of_le _ (by decide), BitVec.toNat_setWidth]
    show _ = (BitVec.ofNat 32 (f.toBitVec.toNat % 128)).toNat
    rw [BitVec.toNat_ofNat]
    omega
  rw [last, r4]
  congr 2
  show _ = 0 + pc8 (p0.toBitVec.toNat / 256 / 256 / 256 / 256 / 256 / 256 / 256 % 256) + pc8 (p0.toBitVec.toNat / 256 / 256 / 256 / 256 / 256 / 256 % 256) + pc8 (p0.toBitVec.toNat / 256 / 256 / 256 / 256 / 256 % 256) + pc8 (p0.toBitVec.toNat / 256 / 256 / 256 / 256 % 256) + pc8 (p0.toBitVec.toNat / 256 / 256 / 256 % 256) + pc8 (p0.toBitVec.toNat / 256 / 256 % 256) + pc8 (p0.toBitVec.toNat / 256 % 256) + pc8 (p0.toBitVec.toNat % 256)
  omega
