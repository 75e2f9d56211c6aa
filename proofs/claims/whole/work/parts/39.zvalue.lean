/-! the value of each node, by a table that grows -/
def lv (c : Int32) (s : Int32) : Int32 := ((f_X6_isSo c s).getD 0)
def pv (R : Ru) (s : Int32) (H : Fn) (i : Nat) : Int32 :=
  if R.1 i = 33 then (if H (R.2.1 i).toNatClampNeg = 0 then 1 else 0)
  else if R.1 i = 38 then (if H (R.2.1 i).toNatClampNeg = 0 then 0 else if H (R.2.2.1 i).toNatClampNeg = 0 then 0 else 1)
  else if R.1 i = 124 then (if H (R.2.1 i).toNatClampNeg = 0 then (if H (R.2.2.1 i).toNatClampNeg = 0 then 0 else 1) else 1)
  else lv (R.1 i) s
def hv (R : Ru) (s : Int32) : Nat → Fn
  | 0 => fun _ => 0
  | k + 1 => upd (hv R s k) k (pv R s (hv R s k) k)
/-- a node's kind and children are as they must be -/
def nodeOK (R : Ru) (i : Nat) : Prop := (R.1 i = 33 ∨ R.1 i = 38 ∨ R.1 i = 124 ∨ isL (R.1 i)) ∧ ∃ a b : Nat, R.2.1 i = nI a ∧ R.2.2.1 i = nI b ∧ a < 60 ∧ b < 60
def rep1 (m : Int64) (H : Fn) (k : Nat) : Prop := (∀ i, i < 60 → (H i = 0 ∨ H i = 1) ∧ (m.toBitVec.toNat / 2 ^ i % 2 = 1 ↔ H i = 1)) ∧ ∀ i, k ≤ i → H i = 0
theorem letter_val {c : Int32} (h : isL c) {s : Nat} (hs : s < 256) : f_X6_isSo c (nI s) = some (lv c (nI s)) ∧ (lv c (nI s) = 0 ∨ lv c (nI s) = 1) ∧ ∀ R : Ru, ((f_X3_letterNumber R c).bind fun o => f_X3_letterHolds R o (nI s)) = some (lv c (nI s)) := by
  have fin : (f_X6_isSo c (nI s) = some 0 ∨ f_X6_isSo c (nI s) = some 1) ∧ f_X6_isSo c (nI s) = ((f_X3_letterNumber R00 c).bind fun o => f_X3_letterHolds R00 o (nI s)) := by
    rcases h with rfl | rfl | rfl | rfl | rfl | rfl | rfl | rfl
    · exact ⟨(let_tab 0 (by decide) s hs).1, (let_tab 0 (by decide) s hs).2.1⟩
    · exact ⟨(let_tab 1 (by decide) s hs).1, (let_tab 1 (by decide) s hs).2.1⟩
    · exact ⟨(let_tab 2 (by decide) s hs).1, (let_tab 2 (by decide) s hs).2.1⟩
    · exact ⟨(let_tab 3 (by decide) s hs).1, (let_tab 3 (by decide) s hs).2.1⟩
    · exact ⟨(let_tab 0 (by decide) s hs).2.2.1, (let_tab 0 (by decide) s hs).2.2.2⟩
    · exact ⟨(let_tab 1 (by decide) s hs).2.2.1, (let_tab 1 (by decide) s hs).2.2.2⟩
    · exact ⟨(let_tab 2 (by decide) s hs).2.2.1, (let_tab 2 (by decide) s hs).2.2.2⟩
    · exact ⟨(let_tab 3 (by decide) s hs).2.2.1, (let_tab 3 (by decide) s hs).2.2.2⟩
  obtain ⟨h1, h2⟩ := fin
  have h3 : f_X6_isSo c (nI s) = some (lv c (nI s)) := by
    unfold lv
    rcases h1 with h1 | h1 <;> rw [h1] <;> rfl
  refine ⟨h3, ?_, fun R => ?_⟩
  · unfold lv
    rcases h1 with h1 | h1 <;> rw [h1]
    · exact .inl rfl
    · exact .inr rfl
  · rw [← h3, h2]
    rfl
theorem part_ok {R : Ru} {s k i : Nat} {m : Int64} {H : Fn} (hs : s < 256) (hi : i < 60) (hn : nodeOK R i) (hm : rep1 m H k) : f_X3_partHolds R (nI i) (nI s) m = some (pv R (nI s) H i) ∧ (pv R (nI s) H i = 0 ∨ pv R (nI s) H i = 1) := by
  obtain ⟨hk, a, b, ea, eb, ha, hb⟩ := hn
  have rd : ∀ j, j < 60 → f_X3_isIn R m (nI j) = some (H j) := by
    intro j hj
    obtain ⟨q1, q2⟩ := hm.1 j hj
    rw [isIn_ok R m hj]
    by_cases c : m.toBitVec.toNat / 2 ^ j % 2 = 1
    · rw [if_pos c, q2.mp c]
    · rw [if_neg c]
      rcases q1 with q1 | q1
      · rw [q1]
      · exact absurd (q2.mpr q1) c
  have va := (hm.1 a ha).1
  have vb := (hm.1 b hb).1
  unfold f_X3_partHolds pv b_X3_partHolds_78 b_X3_partHolds_93 b_X3_partHolds_94 b_X3_partHolds_105 b_X3_partHolds_110
  rw [ix_nI hi (by decide), cl i (by omega), ea, eb, rd a ha, Option.bind_some, ix_nI hi (by decide), rd b hb, Option.bind_some, ix_nI hi (by decide), cl a (by omega), cl b (by omega)]
  by_cases k33 : R.1 i = 33
  · rw [if_pos k33, if_pos k33]
    by_cases c : H a = 0
    · rw [if_pos c, if_pos c]; exact ⟨zb_ok (.inr rfl), .inr rfl⟩
    · rw [if_neg c, if_neg c]; exact ⟨zb_ok (.inl rfl), .inl rfl⟩
  rw [if_neg k33, if_neg k33]
  by_cases k38 : R.1 i = 38
  · rw [if_pos k38, if_pos k38]
    by_cases c : H a = 0
    · rw [if_pos c, if_pos c]; exact ⟨zb_ok (.inl rfl), .inl rfl⟩
    · rw [if_neg c, if_neg c]
      by_cases d : H b = 0
      · rw [if_pos d, if_pos d]; exact ⟨zb_ok (.inl rfl), .inl rfl⟩
      · rw [if_neg d, if_neg d]; exact ⟨zb_ok (.inr rfl), .inr rfl⟩
  rw [if_neg k38, if_neg k38]
  by_cases k124 : R.1 i = 124
  · rw [if_pos k124, if_pos k124]
    by_cases c : H a = 0
    · rw [if_pos c, if_pos c]
      by_cases d : H b = 0
      · rw [if_pos d, if_pos d]; exact ⟨zb_ok (.inl rfl), .inl rfl⟩
      · rw [if_neg d, if_neg d]; exact ⟨zb_ok (.inr rfl), .inr rfl⟩
    · rw [if_neg c, if_neg c]; exact ⟨zb_ok (.inr rfl), .inr rfl⟩
  rw [if_neg k124, if_neg k124]
  have hL : isL (R.1 i) := by
    rcases hk with h | h | h | h
    · exact absurd h k33
    · exact absurd h k38
    · exact absurd h k124
    · exact h
  obtain ⟨q1, q2, q3⟩ := letter_val hL hs
  refine ⟨?_, q2⟩
  have q4 := q3 R
  rw [ix_nI hi (by decide)]
  cases hl : f_X3_letterNumber R (R.1 i) with
  | none => rw [hl] at q4; cases q4
  | some o =>
    rw [hl, Option.bind_some] at q4
    rw [Option.bind_some, q4, Option.bind_some]
    exact zb_ok q2
