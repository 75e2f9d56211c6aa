theorem or_set (L : Int64) {a : Nat} (ha : a < 60) (h : bt L.toBitVec.toNat a = 0) : (L ||| ((1 : Int64) <<< (Int32.toInt64 (nI a) &&& 63))).toBitVec.toNat = L.toBitVec.toNat + 2 ^ a := by
  rw [set_bit L ha, if_neg (by unfold bt at h; omega)]
theorem look_1 {L : Int64} {W : Nat → Nat} {i a : Nat} (ha : a < i) (hi : i < 60) (h : bt L.toBitVec.toNat a = 0) : pcn 8 (L ||| ((1 : Int64) <<< (Int32.toInt64 (nI a) &&& 63))).toBitVec.toNat = pcn 8 L.toBitVec.toNat + 1 ∧ sm W (L ||| ((1 : Int64) <<< (Int32.toInt64 (nI a) &&& 63))).toBitVec.toNat i = sm W L.toBitVec.toNat i + W a ∧ ∀ j, bt (L ||| ((1 : Int64) <<< (Int32.toInt64 (nI a) &&& 63))).toBitVec.toNat j = if j = a then 1 else bt L.toBitVec.toNat j := by
  rw [or_set L (by omega) h]
  refine ⟨pcn_set 8 a _ (by omega) h, ?_, fun j => bt_set h j⟩
  rw [sm_set h i, if_pos ha]
theorem from_ok {R : Ru} {n i : Nat} {m L : Int64} {s : Nat} (hn : n ≤ 60) (ht : treeOK R n) (hi : i < n) (hm : rep1 m (hv R (nI s) n) n) (hc : ∀ c, c < i → kid R i c → bt L.toBitVec.toNat c = 0) :
    ∃ q : Int64, f_X3_lookedAtFrom R (nI i) m = some q ∧ (pcn 8 (L ||| q).toBitVec.toNat + sm (fun j => lk R (hv R (nI s) n) n j - 1) (L ||| q).toBitVec.toNat i = pcn 8 L.toBitVec.toNat + sm (fun j => lk R (hv R (nI s) n) n j - 1) L.toBitVec.toNat i + (lk R (hv R (nI s) n) n i - 1)) ∧ ∀ j, bt (L ||| q).toBitVec.toNat j = 1 → bt L.toBitVec.toNat j = 1 ∨ kid R i j := by
  have hlk : ∀ j, j < n → 1 ≤ lk R (hv R (nI s) n) n j := fun j hj => by rw [lk_st R _ n j hj]; exact lk_pos _ _ _ _
  have hst : ∀ j, j < i → lk R (hv R (nI s) n) i j = lk R (hv R (nI s) n) n j := fun j hj => by rw [lk_st R _ i j hj, lk_st R _ n j (by omega)]
  have hi' := lk_st R (hv R (nI s) n) n i hi
  have hbit : ∀ a, a < 60 → (lg_cmp (m &&& ((1 : Int64) <<< (Int32.toInt64 (nI a) &&& 63))) (0 : Int64) = 0 ↔ hv R (nI s) n a = 0) := by
    intro a ha
    rw [and_bit m ha]
    obtain ⟨q1, q2⟩ := hm.1 a ha
    constructor
    · intro z
      rcases q1 with q1 | q1
      · exact q1
      · have := q2.mpr q1; unfold bt at z; omega
    · intro z
      have : ¬ m.toBitVec.toNat / 2 ^ a % 2 = 1 := fun w => absurd (z.symm.trans (q2.mp w)) (by decide)
      unfold bt; omega
  rcases ht.1 i hi with ⟨h1, h2, h3⟩ | ⟨h1, a, h2, h3, h4⟩ | ⟨h1, a, b, h2, h3, h4, h5, h6⟩
  · obtain ⟨n1, n2, n3⟩ := isL_ne h1
    refine ⟨0, ?_, ?_, fun j hj => .inl ?_⟩
    · unfold f_X3_lookedAtFrom b_X3_lookedAtFrom_34
      rw [ix_nI (show i < 60 by omega) (by decide), ix_nI (show i < 60 by omega) (by decide), cl i (by omega), h2, h3, ix_nI (show i < 60 by omega) (by decide)]
      simp only [ix_nI (α := Int64) (show i < 60 by omega) (show 60 < 2 ^ 31 by decide), if_neg n1, if_neg n2, if_neg n3, ite_self]
    · rw [show L ||| 0 = L from by simp]
      rw [hi']
      unfold lk1
      rw [if_neg n1, if_neg n2, if_neg n3]
      omega
    · rw [show L ||| 0 = L from by simp] at hj; exact hj
  · have ka : kid R i a := .inl ⟨h1, h3⟩
    obtain ⟨g1, g2, g3⟩ := look_1 (W := fun j => lk R (hv R (nI s) n) n j - 1) h2 (by omega) (hc a h2 ka)
    refine ⟨((1 : Int64) <<< (Int32.toInt64 (nI a) &&& 63)), ?_, ?_, fun j hj => ?_⟩
    · unfold f_X3_lookedAtFrom b_X3_lookedAtFrom_34
      rw [ix_nI (show i < 60 by omega) (by decide), ix_nI (show i < 60 by omega) (by decide), cl i (by omega), h3, h4, ix_nI (show i < 60 by omega) (by decide)]
      simp only [ix_nI (α := Int64) (show i < 60 by omega) (show 60 < 2 ^ 31 by decide), if_pos h1, ite_self]
    · rw [g1, g2, hi']
      unfold lk1
      rw [if_pos h1, h3, cl a (by omega), hst a h2]
      have := hlk a (by omega)
      omega
    · rw [g3 j] at hj
      by_cases e : j = a
      · subst e; exact .inr ka
      · rw [if_neg e] at hj; exact .inl hj
  · have hk33 : R.1 i ≠ 33 := by rcases h1 with h1 | h1 <;> rw [h1] <;> decide
    have ka : kid R i a := .inr ⟨h1, .inl h5⟩
    have kb : kid R i b := .inr ⟨h1, .inr h6⟩
    obtain ⟨g1, g2, g3⟩ := look_1 (W := fun j => lk R (hv R (nI s) n) n j - 1) h2 (by omega) (hc a h2 ka)
    have hb0 : bt (L ||| ((1 : Int64) <<< (Int32.toInt64 (nI a) &&& 63))).toBitVec.toNat b = 0 := by
      rw [g3 b, if_neg (fun e => h4 e.symm)]; exact hc b h3 kb
    obtain ⟨d1, d2, d3⟩ := look_1 (W := fun j => lk R (hv R (nI s) n) n j - 1) h3 (by omega) hb0
    have pa := hlk a (by omega)
    have pb := hlk b (by omega)
    have eor : L ||| (((1 : Int64) <<< (Int32.toInt64 (nI a) &&& 63)) ||| ((1 : Int64) <<< (Int32.toInt64 (nI b) &&& 63))) = (L ||| ((1 : Int64) <<< (Int32.toInt64 (nI a) &&& 63))) ||| ((1 : Int64) <<< (Int32.toInt64 (nI b) &&& 63)) := by rw [Int64.or_assoc]
    have one : (∃ q : Int64, q = ((1 : Int64) <<< (Int32.toInt64 (nI a) &&& 63)) ∧ f_X3_lookedAtFrom R (nI i) m = some q ∧ lk R (hv R (nI s) n) n i = 1 + lk R (hv R (nI s) n) n a) ∨ (∃ q : Int64, q = (((1 : Int64) <<< (Int32.toInt64 (nI a) &&& 63)) ||| ((1 : Int64) <<< (Int32.toInt64 (nI b) &&& 63))) ∧ f_X3_lookedAtFrom R (nI i) m = some q ∧ lk R (hv R (nI s) n) n i = 1 + lk R (hv R (nI s) n) n a + lk R (hv R (nI s) n) n b) := by
      unfold f_X3_lookedAtFrom b_X3_lookedAtFrom_34 b_X3_lookedAtFrom_94 b_X3_lookedAtFrom_110
      rw [ix_nI (show i < 60 by omega) (by decide), ix_nI (show i < 60 by omega) (by decide), cl i (by omega), h5, h6, ix_nI (show i < 60 by omega) (by decide), ix_nI (show i < 60 by omega) (by decide), hi']
      unfold lk1
      rw [if_neg hk33, if_neg hk33, if_neg hk33, h5, h6, cl a (by omega), cl b (by omega), hst a h2, hst b h3]
      have k1 : ¬ (1 : Int32) = 0 := by decide
      rcases h1 with h1 | h1
      · simp only [if_pos h1]
        by_cases c : hv R (nI s) n a = 0
        · rw [if_pos ((hbit a (by omega)).mpr c), if_pos c]
          exact .inl ⟨_, rfl, by simp, rfl⟩
        · rw [if_neg (fun z => c ((hbit a (by omega)).mp z)), if_neg c]
          exact .inr ⟨_, rfl, by simp [k1], rfl⟩
      · have k38 : ¬ R.1 i = 38 := by rw [h1]; decide
        simp only [if_neg k38, if_pos h1]
        by_cases c : hv R (nI s) n a = 0
        · rw [if_pos ((hbit a (by omega)).mpr c), if_pos c]
          exact .inr ⟨_, rfl, by simp, rfl⟩
        · rw [if_neg (fun z => c ((hbit a (by omega)).mp z)), if_neg c]
          exact .inl ⟨_, rfl, by simp [k1], rfl⟩
    rcases one with ⟨q, rfl, f1, f2⟩ | ⟨q, rfl, f1, f2⟩
    · refine ⟨_, f1, ?_, fun j hj => ?_⟩
      · rw [g1, g2, f2]; omega
      · rw [g3 j] at hj
        by_cases e : j = a
        · subst e; exact .inr ka
        · rw [if_neg e] at hj; exact .inl hj
    · refine ⟨_, f1, ?_, fun j hj => ?_⟩
      · rw [eor, d1, d2, g1, g2, f2]; omega
      · rw [eor, d3 j] at hj
        by_cases e : j = b
        · subst e; exact .inr kb
        · rw [if_neg e, g3 j] at hj
          by_cases e2 : j = a
          · subst e2; exact .inr ka
          · rw [if_neg e2] at hj; exact .inl hj
