/-! how many nodes are looked at -/
def lk1 (R : Ru) (H : Fn) (L : Nat → Nat) (i : Nat) : Nat :=
  if R.1 i = 33 then 1 + L (R.2.1 i).toNatClampNeg
  else if R.1 i = 38 then (if H (R.2.1 i).toNatClampNeg = 0 then 1 + L (R.2.1 i).toNatClampNeg else 1 + L (R.2.1 i).toNatClampNeg + L (R.2.2.1 i).toNatClampNeg)
  else if R.1 i = 124 then (if H (R.2.1 i).toNatClampNeg = 0 then 1 + L (R.2.1 i).toNatClampNeg + L (R.2.2.1 i).toNatClampNeg else 1 + L (R.2.1 i).toNatClampNeg)
  else 1
def lk (R : Ru) (H : Fn) : Nat → Nat → Nat
  | 0 => fun _ => 0
  | k + 1 => fun j => if j = k then lk1 R H (lk R H k) k else lk R H k j
def bt (x i : Nat) : Nat := x / 2 ^ i % 2
/-- the sum over the bits below k -/
def sm (W : Nat → Nat) (x : Nat) : Nat → Nat
  | 0 => 0
  | k + 1 => sm W x k + bt x k * W k
theorem sm_ext {W W' : Nat → Nat} {x y : Nat} : ∀ (k : Nat), (∀ i, i < k → bt x i * W i = bt y i * W' i) → sm W x k = sm W' y k
  | 0, _ => rfl
  | k + 1, h => by
    show sm W x k + bt x k * W k = sm W' y k + bt y k * W' k
    rw [sm_ext k (fun i hi => h i (by omega)), h k (by omega)]
theorem bt_set {x i : Nat} (h : bt x i = 0) (j : Nat) : bt (x + 2 ^ i) j = if j = i then 1 else bt x j := by
  have e := bit_add (j := j) h
  have b1 : bt (x + 2 ^ i) j = 0 ∨ bt (x + 2 ^ i) j = 1 := by unfold bt; omega
  have b2 : bt x j = 0 ∨ bt x j = 1 := by unfold bt; omega
  have e' : bt (x + 2 ^ i) j = 1 ↔ (j = i ∨ bt x j = 1) := e
  by_cases c : j = i
  · rw [if_pos c]
    exact e'.mpr (.inl c)
  · rw [if_neg c]
    rcases b2 with b2 | b2
    · rcases b1 with b1 | b1
      · rw [b1, b2]
      · rcases e'.mp b1 with z | z
        · exact absurd z c
        · rw [b1, z]
    · rw [b2]; exact e'.mpr (.inr b2)
theorem sm_set {W : Nat → Nat} {x i : Nat} (h : bt x i = 0) : ∀ k, sm W (x + 2 ^ i) k = sm W x k + (if i < k then W i else 0)
  | 0 => by show 0 = 0 + _; rw [if_neg (by omega)]
  | k + 1 => by
    show sm W (x + 2 ^ i) k + bt (x + 2 ^ i) k * W k = sm W x k + bt x k * W k + _
    rw [sm_set h k, bt_set h k]
    by_cases c : k = i
    · subst c
      rw [if_pos rfl, if_neg (by omega), if_pos (by omega), h]
      omega
    · rw [if_neg c]
      by_cases d : i < k
      · rw [if_pos d, if_pos (by omega)]; omega
      · rw [if_neg d, if_neg (by omega)]; omega
