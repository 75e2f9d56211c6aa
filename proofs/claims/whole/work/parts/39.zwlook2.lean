theorem lk_st (R : Ru) (H : Fn) : ∀ (k j : Nat), j < k → lk R H k j = lk1 R H (lk R H j) j
  | 0, j, h => absurd h (Nat.not_lt_zero _)
  | k + 1, j, h => by
    show (if j = k then lk1 R H (lk R H k) k else lk R H k j) = _
    by_cases e : j = k
    · subst e; rw [if_pos rfl]
    · rw [if_neg e]; exact lk_st R H k j (by omega)
theorem hv_st (R : Ru) (s : Int32) : ∀ (k j : Nat), j < k → hv R s k j = pv R s (hv R s j) j
  | 0, j, h => absurd h (Nat.not_lt_zero _)
  | k + 1, j, h => by
    show upd (hv R s k) k (pv R s (hv R s k) k) j = _
    by_cases e : j = k
    · subst e; rw [upd_e rfl]
    · rw [upd_n e]; exact hv_st R s k j (by omega)
/-- the nodes below n make trees: children come before, each has one parent -/
def kid (R : Ru) (i c : Nat) : Prop := (R.1 i = 33 ∧ R.2.1 i = nI c) ∨ ((R.1 i = 38 ∨ R.1 i = 124) ∧ (R.2.1 i = nI c ∨ R.2.2.1 i = nI c))
def treeOK (R : Ru) (n : Nat) : Prop := (∀ i, i < n → (isL (R.1 i) ∧ R.2.1 i = nI 0 ∧ R.2.2.1 i = nI 0) ∨ (R.1 i = 33 ∧ ∃ a, a < i ∧ R.2.1 i = nI a ∧ R.2.2.1 i = nI a) ∨ ((R.1 i = 38 ∨ R.1 i = 124) ∧ ∃ a b, a < i ∧ b < i ∧ a ≠ b ∧ R.2.1 i = nI a ∧ R.2.2.1 i = nI b)) ∧
  ∀ i j c, i < n → j < n → c < 60 → kid R i c → kid R j c → i = j
theorem tree_node {R : Ru} {n : Nat} (hn : n ≤ 60) (h : treeOK R n) {i : Nat} (hi : i < n) : nodeOK R i := by
  rcases h.1 i hi with ⟨h1, h2, h3⟩ | ⟨h1, a, h2, h3, h4⟩ | ⟨h1, a, b, h2, h3, h4, h5, h6⟩
  · exact ⟨.inr (.inr (.inr h1)), 0, 0, h2, h3, by omega, by omega⟩
  · exact ⟨.inl h1, a, a, h3, h4, by omega, by omega⟩
  · refine ⟨?_, a, b, h5, h6, by omega, by omega⟩
    rcases h1 with h1 | h1
    · exact .inr (.inl h1)
    · exact .inr (.inr (.inl h1))
theorem isL_ne {c : Int32} (h : isL c) : c ≠ 33 ∧ c ≠ 38 ∧ c ≠ 124 := by
  rcases h with rfl | rfl | rfl | rfl | rfl | rfl | rfl | rfl <;> decide
theorem lk_pos (R : Ru) (H : Fn) (L : Nat → Nat) (i : Nat) : 1 ≤ lk1 R H L i := by
  unfold lk1
  repeat' split
  all_goals omega
theorem sm_0 (W : Nat → Nat) : ∀ k, sm W 0 k = 0
  | 0 => rfl
  | k + 1 => by
    show sm W 0 k + bt 0 k * W k = 0
    rw [sm_0 W k, show bt 0 k = 0 from by unfold bt; rw [Nat.zero_div]]
    omega
theorem and_bit (m : Int64) {a : Nat} (ha : a < 60) : lg_cmp (m &&& ((1 : Int64) <<< (Int32.toInt64 (nI a) &&& 63))) (0 : Int64) = 0 ↔ bt m.toBitVec.toNat a = 0 := by
  rw [cmp0, nat_and, one_shl ha]
  constructor
  · intro h
    have t : (m.toBitVec.toNat &&& 2 ^ a).testBit a = false := by rw [h]; exact Nat.zero_testBit a
    rw [Nat.testBit_and, Nat.testBit_two_pow_self, Bool.and_true, Nat.testBit_eq_decide_div_mod_eq] at t
    have := of_decide_eq_false t
    unfold bt; omega
  · intro h
    apply Nat.eq_of_testBit_eq
    intro j
    rw [Nat.testBit_and, Nat.testBit_two_pow, Nat.zero_testBit]
    by_cases e : a = j
    · subst e
      have : m.toBitVec.toNat.testBit a = false := by
        rw [Nat.testBit_eq_decide_div_mod_eq]
        unfold bt at h
        rw [h]; decide
      rw [this]; rfl
    · simp [e]
