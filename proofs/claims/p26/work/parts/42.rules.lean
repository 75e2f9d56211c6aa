def R00 : Ru := ((fun _ => 0), (fun _ => 0), (fun _ => 0), (fun _ => 0), 0, 0)
def isL (c : Int32) : Prop := c = 65 ∨ c = 66 ∨ c = 67 ∨ c = 68 ∨ c = 97 ∨ c = 98 ∨ c = 99 ∨ c = 100
theorem let_tab : ∀ j, j < 4 → ∀ s, s < 256 → (f_L_isSo (nI (65 + j)) (nI s) = some 0 ∨ f_L_isSo (nI (65 + j)) (nI s) = some 1) ∧ f_L_isSo (nI (65 + j)) (nI s) = ((f_X3_letterNumber R00 (nI (65 + j))).bind fun o => f_X3_letterHolds R00 o (nI s)) ∧ (f_L_isSo (nI (97 + j)) (nI s) = some 0 ∨ f_L_isSo (nI (97 + j)) (nI s) = some 1) ∧ f_L_isSo (nI (97 + j)) (nI s) = ((f_X3_letterNumber R00 (nI (97 + j))).bind fun o => f_X3_letterHolds R00 o (nI s)) := by decide +kernel
def lv (c : Int32) (s : Int32) : Int32 := ((f_L_isSo c s).getD 0)
def pv (R : Ru) (s : Int32) (H : Fn) (i : Nat) : Int32 :=
  if R.1 i = 33 then (if H (R.2.1 i).toNatClampNeg = 0 then 1 else 0)
  else if R.1 i = 38 then (if H (R.2.1 i).toNatClampNeg = 0 then 0 else if H (R.2.2.1 i).toNatClampNeg = 0 then 0 else 1)
  else if R.1 i = 124 then (if H (R.2.1 i).toNatClampNeg = 0 then (if H (R.2.2.1 i).toNatClampNeg = 0 then 0 else 1) else 1)
  else lv (R.1 i) s
def hv (R : Ru) (s : Int32) : Nat → Fn
  | 0 => fun _ => 0
  | k + 1 => upd (hv R s k) k (pv R s (hv R s k) k)
def nodeOK (R : Ru) (i : Nat) : Prop := (R.1 i = 33 ∨ R.1 i = 38 ∨ R.1 i = 124 ∨ isL (R.1 i)) ∧ ∃ a b : Nat, R.2.1 i = nI a ∧ R.2.2.1 i = nI b ∧ a < 60 ∧ b < 60
def rep1 (m : Int64) (H : Fn) (k : Nat) : Prop := (∀ i, i < 60 → (H i = 0 ∨ H i = 1) ∧ (m.toBitVec.toNat / 2 ^ i % 2 = 1 ↔ H i = 1)) ∧ ∀ i, k ≤ i → H i = 0
theorem letter_val {c : Int32} (h : isL c) {s : Nat} (hs : s < 256) : f_L_isSo c (nI s) = some (lv c (nI s)) ∧ (lv c (nI s) = 0 ∨ lv c (nI s) = 1) ∧ ∀ R : Ru, ((f_X3_letterNumber R c).bind fun o => f_X3_letterHolds R o (nI s)) = some (lv c (nI s)) := by
  have fin : (f_L_isSo c (nI s) = some 0 ∨ f_L_isSo c (nI s) = some 1) ∧ f_L_isSo c (nI s) = ((f_X3_letterNumber R00 c).bind fun o => f_X3_letterHolds R00 o (nI s)) := by
    rcases h with rfl | rfl | rfl | rfl | rfl | rfl | rfl | rfl
    · exact ⟨(let_tab 0 (by decide) s hs).1, (let_tab 0 (by decide) s hs).2.1⟩
    · exact ⟨(let_tab 1 (by decide) s hs).1, (let_tab 1 (by decide) s hs).2.1⟩
    · exact ⟨(let_tab 2 (by decide) s hs).1, (let_tab 2 (by decide) s hs).2.1⟩
    · exact ⟨(let_tab 3 (by decide) s hs).1, (let_tab 3 (by decide) s hs).2.1⟩
    · exact ⟨(let_tab 0 (by decide) s hs).2.2.1, (let_tab 0 (by decide) s hs).2.2.2⟩
    · exact ⟨(let_tab 1 (by decide) s hs).2.2.1, (let_tab 1 (by decide) s hs).2.2.2⟩
    · exact ⟨(let_tab 2 (by decide) s hs).2.2.1, (let_tab 2 (by decide) s hs).2.2.2⟩
    · exact ⟨(let_tab 3 (by decide) s hs).2.2.1, (let_tab 3 (by decide) s hs).2.2.2⟩
  obtain ⟨h1, h2⟩ := fin
  have h3 : f_L_isSo c (nI s) = some (lv c (nI s)) := by
    unfold lv
    rcases h1 with h1 | h1 <;> rw [h1] <;> rfl
  refine ⟨h3, ?_, fun R => ?_⟩
  · unfold lv
    rcases h1 with h1 | h1 <;> rw [h1]
    · exact .inl rfl
    · exact .inr rfl
  · rw [← h3, h2]
    rfl
theorem part_ok {R : Ru} {s k i : Nat} {m : Int64} {H : Fn} (hs : s < 256) (hi : i < 60) (hn : nodeOK R i) (hm : rep1 m H k) : f_X3_partHolds R (nI i) (nI s) m = some (pv R (nI s) H i) ∧ (pv R (nI s) H i = 0 ∨ pv R (nI s) H i = 1) := by
  obtain ⟨hk, a, b, ea, eb, ha, hb⟩ := hn
  have rd : ∀ j, j < 60 → f_X3_isIn R m (nI j) = some (H j) := by
    intro j hj
    obtain ⟨q1, q2⟩ := hm.1 j hj
    rw [isIn_ok R m hj]
    by_cases c : m.toBitVec.toNat / 2 ^ j % 2 = 1
    · rw [if_pos c, q2.mp c]
    · rw [if_neg c]
      rcases q1 with q1 | q1
      · rw [q1]
      · exact absurd (q2.mpr q1) c
  have va := (hm.1 a ha).1
  have vb := (hm.1 b hb).1
  unfold f_X3_partHolds pv b_X3_partHolds_78 b_X3_partHolds_93 b_X3_partHolds_94 b_X3_partHolds_105 b_X3_partHolds_110
  rw [ix_nI hi (by decide), cl i (by omega), ea, eb, rd a ha, Option.bind_some, ix_nI hi (by decide), rd b hb, Option.bind_some, ix_nI hi (by decide), cl a (by omega), cl b (by omega)]
  by_cases k33 : R.1 i = 33
  · rw [if_pos k33, if_pos k33]
    by_cases c : H a = 0
    · rw [if_pos c, if_pos c]; exact ⟨zb_ok (.inr rfl), .inr rfl⟩
    · rw [if_neg c, if_neg c]; exact ⟨zb_ok (.inl rfl), .inl rfl⟩
  rw [if_neg k33, if_neg k33]
  by_cases k38 : R.1 i = 38
  · rw [if_pos k38, if_pos k38]
    by_cases c : H a = 0
    · rw [if_pos c, if_pos c]; exact ⟨zb_ok (.inl rfl), .inl rfl⟩
    · rw [if_neg c, if_neg c]
      by_cases d : H b = 0
      · rw [if_pos d, if_pos d]; exact ⟨zb_ok (.inl rfl), .inl rfl⟩
      · rw [if_neg d, if_neg d]; exact ⟨zb_ok (.inr rfl), .inr rfl⟩
  rw [if_neg k38, if_neg k38]
  by_cases k124 : R.1 i = 124
  · rw [if_pos k124, if_pos k124]
    by_cases c : H a = 0
    · rw [if_pos c, if_pos c]
      by_cases d : H b = 0
      · rw [if_pos d, if_pos d]; exact ⟨zb_ok (.inl rfl), .inl rfl⟩
      · rw [if_neg d, if_neg d]; exact ⟨zb_ok (.inr rfl), .inr rfl⟩
    · rw [if_neg c, if_neg c]; exact ⟨zb_ok (.inr rfl), .inr rfl⟩
  rw [if_neg k124, if_neg k124]
  have hL : isL (R.1 i) := by
    rcases hk with h | h | h | h
    · exact absurd h k33
    · exact absurd h k38
    · exact absurd h k124
    · exact h
  obtain ⟨q1, q2, q3⟩ := letter_val hL hs
  refine ⟨?_, q2⟩
  have q4 := q3 R
  rw [ix_nI hi (by decide)]
  cases hl : f_X3_letterNumber R (R.1 i) with
  | none => rw [hl] at q4; cases q4
  | some o =>
    rw [hl, Option.bind_some] at q4
    rw [Option.bind_some, q4, Option.bind_some]
    exact zb_ok q2
theorem rep1_0 : rep1 0 (fun _ => 0) 0 := by
  refine ⟨fun i hi => ⟨.inl rfl, ?_⟩, fun i hi => rfl⟩
  rw [show (0 : Int64).toBitVec.toNat = 0 from rfl, Nat.zero_div]
  exact ⟨fun h => absurd h (by decide), fun h => absurd (show (0 : Int32) = 1 from h) (by decide)⟩
theorem bit_add {x i j : Nat} (h : x / 2 ^ i % 2 = 0) : ((x + 2 ^ i) / 2 ^ j % 2 = 1 ↔ (j = i ∨ x / 2 ^ j % 2 = 1)) := by
  have e := or_bit x i
  rw [if_neg (by omega)] at e
  have t : (x ||| 2 ^ i).testBit j = (x.testBit j || decide (i = j)) := by rw [Nat.testBit_or, Nat.testBit_two_pow]
  rw [e, Nat.testBit_eq_decide_div_mod_eq, Nat.testBit_eq_decide_div_mod_eq] at t
  by_cases q : j = i
  · subst q
    simp at t
    exact ⟨fun _ => .inl rfl, fun _ => t⟩
  · have q' : ¬ i = j := fun z => q z.symm
    simp [q'] at t
    constructor
    · intro z; exact .inr (t.mp z)
    · rintro (z | z)
      · exact absurd z q
      · exact t.mpr z
theorem rep1_s {m : Int64} {H : Fn} {k : Nat} (hk : k < 60) (h : rep1 m H k) : rep1 m (upd H k 0) (k + 1) ∧ rep1 (m ||| ((1 : Int64) <<< (Int32.toInt64 (nI k) &&& 63))) (upd H k 1) (k + 1) := by
  have hk0 : H k = 0 := h.2 k (Nat.le_refl _)
  have hb : m.toBitVec.toNat / 2 ^ k % 2 = 0 := by
    have := (h.1 k hk).2
    rw [hk0] at this
    by_cases c : m.toBitVec.toNat / 2 ^ k % 2 = 1
    · exact absurd (this.mp c) (by decide)
    · omega
  refine ⟨⟨fun i hi => ?_, fun i hi => ?_⟩, ⟨fun i hi => ?_, fun i hi => ?_⟩⟩
  · by_cases e : i = k
    · subst e
      rw [upd_e rfl]
      have := h.1 i hi
      rw [hk0] at this
      exact this
    · rw [upd_n e]; exact h.1 i hi
  · rw [upd_n (by omega)]; exact h.2 i (by omega)
  · rw [set_bit m hk, if_neg (by omega), bit_add hb]
    by_cases e : i = k
    · subst e
      rw [upd_e rfl]
      exact ⟨.inr rfl, ⟨fun _ => rfl, fun _ => .inl rfl⟩⟩
    · rw [upd_n e]
      refine ⟨(h.1 i hi).1, ⟨fun z => ?_, fun z => .inr ((h.1 i hi).2.mpr z)⟩⟩
      rcases z with z | z
      · exact absurd z e
      · exact (h.1 i hi).2.mp z
  · rw [upd_n (by omega)]; exact h.2 i (by omega)
theorem holding_ok {R : Ru} {s n N : Nat} (hN : 5000 ≤ N) (hs : s < 256) (hn : n ≤ 60) (en : R.2.2.2.2.1 = nI n) (hok : ∀ i, i < n → nodeOK R i) : ∃ m : Int64, f_X3_holding N R (nI s) = some m ∧ rep1 m (hv R (nI s) n) n := by
  refine lp_m (body := b_X3_holding_5 N R (nI s)) (P := fun k st => k ≤ n ∧ ∃ m : Int64, st = (m, nI (n - k)) ∧ rep1 m (hv R (nI s) (n - k)) (n - k)) (Q := fun m => rep1 m (hv R (nI s) n) n) ?_ N n ((0 : Int64), (0 : Int32)) (by omega) ⟨Nat.le_refl _, 0, by rw [Nat.sub_self]; rfl, by rw [Nat.sub_self]; exact rep1_0⟩
  rintro k st ⟨hk, m, rfl, hr⟩
  by_cases k0 : k = 0
  · subst k0
    refine .inl ⟨m, fun K => ?_, hr⟩
    unfold b_X3_holding_5 b_X3_holding_45
    exact if_pos (show R.2.2.2.2.1 ≤ nI (n - 0) by rw [en]; exact nI_le (by omega) (by omega))
  · obtain ⟨p1, p2⟩ := part_ok hs (show n - k < 60 by omega) (hok (n - k) (by omega)) hr
    obtain ⟨r1, r2⟩ := rep1_s (show n - k < 60 by omega) hr
    have ek : n - (k - 1) = n - k + 1 := by omega
    have e0 : ¬ R.2.2.2.2.1 ≤ nI (n - k) := by rw [en]; exact nI_ge (by omega) (by omega)
    have e1 : ¬ (60 : Int32) ≤ nI (n - k) := nI_ge (show n - k < 60 by omega) (by decide)
    have eh : hv R (nI s) (n - (k - 1)) = upd (hv R (nI s) (n - k)) (n - k) (pv R (nI s) (hv R (nI s) (n - k)) (n - k)) := by rw [ek]; rfl
    rcases p2 with z | z
    · refine .inr ⟨k - 1, (m, nI (n - (k - 1))), by omega, ⟨by omega, m, rfl, ?_⟩, fun K => ?_⟩
      · rw [eh, z, ek]; exact r1
      · unfold b_X3_holding_5 b_X3_holding_39
        refine (if_neg e0).trans ((if_neg e1).trans ?_)
        dsimp only
        rw [p1, Option.bind_some, z, if_pos rfl, nI_1, ek]
    · refine .inr ⟨k - 1, (m ||| ((1 : Int64) <<< (Int32.toInt64 (nI (n - k)) &&& 63)), nI (n - (k - 1))), by omega, ⟨by omega, _, rfl, ?_⟩, fun K => ?_⟩
      · rw [eh, z, ek]; exact r2
      · unfold b_X3_holding_5 b_X3_holding_39
        refine (if_neg e0).trans ((if_neg e1).trans ?_)
        dsimp only
        rw [p1, Option.bind_some, z, if_neg (show ¬ (1 : Int32) = 0 by decide), nI_1, ek]
theorem holds_ok {R : Ru} {s n N : Nat} (hN : 5000 ≤ N) (hs : s < 256) (hn : 1 ≤ n ∧ n ≤ 60) (en : R.2.2.2.2.1 = nI n) (hok : ∀ i, i < n → nodeOK R i) : f_X3_holds N R (nI s) = some (hv R (nI s) n (n - 1)) ∧ (hv R (nI s) n (n - 1) = 0 ∨ hv R (nI s) n (n - 1) = 1) := by
  obtain ⟨m, h1, h2⟩ := holding_ok hN hs hn.2 en hok
  obtain ⟨q1, q2⟩ := h2.1 (n - 1) (by omega)
  refine ⟨?_, q1⟩
  unfold f_X3_holds
  have e : R.2.2.2.2.1 - (1 : Int32) = nI (n - 1) := by
    rw [en]
    have := nI_pred (n - 1)
    rw [show n - 1 + 1 = n from by omega] at this
    exact this
  rw [h1, Option.bind_some, e, isIn_ok R m (show n - 1 < 60 by omega)]
  by_cases c : m.toBitVec.toNat / 2 ^ (n - 1) % 2 = 1
  · rw [if_pos c, Option.bind_some, q2.mp c]; exact zb_ok (.inr rfl)
  · rw [if_neg c, Option.bind_some]
    rcases q1 with q1 | q1
    · rw [q1]; exact zb_ok (.inl rfl)
    · exact absurd (q2.mpr q1) c
def lk1 (R : Ru) (H : Fn) (L : Nat → Nat) (i : Nat) : Nat :=
  if R.1 i = 33 then 1 + L (R.2.1 i).toNatClampNeg
  else if R.1 i = 38 then (if H (R.2.1 i).toNatClampNeg = 0 then 1 + L (R.2.1 i).toNatClampNeg else 1 + L (R.2.1 i).toNatClampNeg + L (R.2.2.1 i).toNatClampNeg)
  else if R.1 i = 124 then (if H (R.2.1 i).toNatClampNeg = 0 then 1 + L (R.2.1 i).toNatClampNeg + L (R.2.2.1 i).toNatClampNeg else 1 + L (R.2.1 i).toNatClampNeg)
  else 1
def lk (R : Ru) (H : Fn) : Nat → Nat → Nat
  | 0 => fun _ => 0
  | k + 1 => fun j => if j = k then lk1 R H (lk R H k) k else lk R H k j
def bt (x i : Nat) : Nat := x / 2 ^ i % 2
def sm (W : Nat → Nat) (x : Nat) : Nat → Nat
  | 0 => 0
  | k + 1 => sm W x k + bt x k * W k
theorem sm_ext {W W' : Nat → Nat} {x y : Nat} : ∀ (k : Nat), (∀ i, i < k → bt x i * W i = bt y i * W' i) → sm W x k = sm W' y k
  | 0, _ => rfl
  | k + 1, h => by
    show sm W x k + bt x k * W k = sm W' y k + bt y k * W' k
    rw [sm_ext k (fun i hi => h i (by omega)), h k (by omega)]
theorem bt_set {x i : Nat} (h : bt x i = 0) (j : Nat) : bt (x + 2 ^ i) j = if j = i then 1 else bt x j := by
  have e := bit_add (j := j) h
  have b1 : bt (x + 2 ^ i) j = 0 ∨ bt (x + 2 ^ i) j = 1 := by unfold bt; omega
  have b2 : bt x j = 0 ∨ bt x j = 1 := by unfold bt; omega
  have e' : bt (x + 2 ^ i) j = 1 ↔ (j = i ∨ bt x j = 1) := e
  by_cases c : j = i
  · rw [if_pos c]
    exact e'.mpr (.inl c)
  · rw [if_neg c]
    rcases b2 with b2 | b2
    · rcases b1 with b1 | b1
      · rw [b1, b2]
      · rcases e'.mp b1 with z | z
        · exact absurd z c
        · rw [b1, z]
    · rw [b2]; exact e'.mpr (.inr b2)
theorem sm_set {W : Nat → Nat} {x i : Nat} (h : bt x i = 0) : ∀ k, sm W (x + 2 ^ i) k = sm W x k + (if i < k then W i else 0)
  | 0 => by show 0 = 0 + _; rw [if_neg (by omega)]
  | k + 1 => by
    show sm W (x + 2 ^ i) k + bt (x + 2 ^ i) k * W k = sm W x k + bt x k * W k + _
    rw [sm_set h k, bt_set h k]
    by_cases c : k = i
    · subst c
      rw [if_pos rfl, if_neg (by omega), if_pos (by omega), h]
      omega
    · rw [if_neg c]
      by_cases d : i < k
      · rw [if_pos d, if_pos (by omega)]; omega
      · rw [if_neg d, if_neg (by omega)]; omega
theorem lk_st (R : Ru) (H : Fn) : ∀ (k j : Nat), j < k → lk R H k j = lk1 R H (lk R H j) j
  | 0, j, h => absurd h (Nat.not_lt_zero _)
  | k + 1, j, h => by
    show (if j = k then lk1 R H (lk R H k) k else lk R H k j) = _
    by_cases e : j = k
    · subst e; rw [if_pos rfl]
    · rw [if_neg e]; exact lk_st R H k j (by omega)
theorem hv_st (R : Ru) (s : Int32) : ∀ (k j : Nat), j < k → hv R s k j = pv R s (hv R s j) j
  | 0, j, h => absurd h (Nat.not_lt_zero _)
  | k + 1, j, h => by
    show upd (hv R s k) k (pv R s (hv R s k) k) j = _
    by_cases e : j = k
    · subst e; rw [upd_e rfl]
    · rw [upd_n e]; exact hv_st R s k j (by omega)
def kid (R : Ru) (i c : Nat) : Prop := (R.1 i = 33 ∧ R.2.1 i = nI c) ∨ ((R.1 i = 38 ∨ R.1 i = 124) ∧ (R.2.1 i = nI c ∨ R.2.2.1 i = nI c))
def treeOK (R : Ru) (n : Nat) : Prop := (∀ i, i < n → (isL (R.1 i) ∧ R.2.1 i = nI 0 ∧ R.2.2.1 i = nI 0) ∨ (R.1 i = 33 ∧ ∃ a, a < i ∧ R.2.1 i = nI a ∧ R.2.2.1 i = nI a) ∨ ((R.1 i = 38 ∨ R.1 i = 124) ∧ ∃ a b, a < i ∧ b < i ∧ a ≠ b ∧ R.2.1 i = nI a ∧ R.2.2.1 i = nI b)) ∧
  ∀ i j c, i < n → j < n → c < 60 → kid R i c → kid R j c → i = j
theorem tree_node {R : Ru} {n : Nat} (hn : n ≤ 60) (h : treeOK R n) {i : Nat} (hi : i < n) : nodeOK R i := by
  rcases h.1 i hi with ⟨h1, h2, h3⟩ | ⟨h1, a, h2, h3, h4⟩ | ⟨h1, a, b, h2, h3, h4, h5, h6⟩
  · exact ⟨.inr (.inr (.inr h1)), 0, 0, h2, h3, by omega, by omega⟩
  · exact ⟨.inl h1, a, a, h3, h4, by omega, by omega⟩
  · refine ⟨?_, a, b, h5, h6, by omega, by omega⟩
    rcases h1 with h1 | h1
    · exact .inr (.inl h1)
    · exact .inr (.inr (.inl h1))
theorem isL_ne {c : Int32} (h : isL c) : c ≠ 33 ∧ c ≠ 38 ∧ c ≠ 124 := by
  rcases h with rfl | rfl | rfl | rfl | rfl | rfl | rfl | rfl <;> decide
theorem lk_pos (R : Ru) (H : Fn) (L : Nat → Nat) (i : Nat) : 1 ≤ lk1 R H L i := by
  unfold lk1
  repeat' split
  all_goals omega
theorem sm_0 (W : Nat → Nat) : ∀ k, sm W 0 k = 0
  | 0 => rfl
  | k + 1 => by
    show sm W 0 k + bt 0 k * W k = 0
    rw [sm_0 W k, show bt 0 k = 0 from by unfold bt; rw [Nat.zero_div]]
    omega
theorem and_bit (m : Int64) {a : Nat} (ha : a < 60) : lg_cmp (m &&& ((1 : Int64) <<< (Int32.toInt64 (nI a) &&& 63))) (0 : Int64) = 0 ↔ bt m.toBitVec.toNat a = 0 := by
  rw [cmp0, nat_and, one_shl ha]
  constructor
  · intro h
    have t : (m.toBitVec.toNat &&& 2 ^ a).testBit a = false := by rw [h]; exact Nat.zero_testBit a
    rw [Nat.testBit_and, Nat.testBit_two_pow_self, Bool.and_true, Nat.testBit_eq_decide_div_mod_eq] at t
    have := of_decide_eq_false t
    unfold bt; omega
  · intro h
    apply Nat.eq_of_testBit_eq
    intro j
    rw [Nat.testBit_and, Nat.testBit_two_pow, Nat.zero_testBit]
    by_cases e : a = j
    · subst e
      have : m.toBitVec.toNat.testBit a = false := by
        rw [Nat.testBit_eq_decide_div_mod_eq]
        unfold bt at h
        rw [h]; decide
      rw [this]; rfl
    · simp [e]
theorem or_set (L : Int64) {a : Nat} (ha : a < 60) (h : bt L.toBitVec.toNat a = 0) : (L ||| ((1 : Int64) <<< (Int32.toInt64 (nI a) &&& 63))).toBitVec.toNat = L.toBitVec.toNat + 2 ^ a := by
  rw [set_bit L ha, if_neg (by unfold bt at h; omega)]
theorem look_1 {L : Int64} {W : Nat → Nat} {i a : Nat} (ha : a < i) (hi : i < 60) (h : bt L.toBitVec.toNat a = 0) : pcn 8 (L ||| ((1 : Int64) <<< (Int32.toInt64 (nI a) &&& 63))).toBitVec.toNat = pcn 8 L.toBitVec.toNat + 1 ∧ sm W (L ||| ((1 : Int64) <<< (Int32.toInt64 (nI a) &&& 63))).toBitVec.toNat i = sm W L.toBitVec.toNat i + W a ∧ ∀ j, bt (L ||| ((1 : Int64) <<< (Int32.toInt64 (nI a) &&& 63))).toBitVec.toNat j = if j = a then 1 else bt L.toBitVec.toNat j := by
  rw [or_set L (by omega) h]
  refine ⟨pcn_set 8 a _ (by omega) h, ?_, fun j => bt_set h j⟩
  rw [sm_set h i, if_pos ha]
theorem from_ok {R : Ru} {n i : Nat} {m L : Int64} {s : Nat} (hn : n ≤ 60) (ht : treeOK R n) (hi : i < n) (hm : rep1 m (hv R (nI s) n) n) (hc : ∀ c, c < i → kid R i c → bt L.toBitVec.toNat c = 0) :
    ∃ q : Int64, f_X3_lookedAtFrom R (nI i) m = some q ∧ (pcn 8 (L ||| q).toBitVec.toNat + sm (fun j => lk R (hv R (nI s) n) n j - 1) (L ||| q).toBitVec.toNat i = pcn 8 L.toBitVec.toNat + sm (fun j => lk R (hv R (nI s) n) n j - 1) L.toBitVec.toNat i + (lk R (hv R (nI s) n) n i - 1)) ∧ ∀ j, bt (L ||| q).toBitVec.toNat j = 1 → bt L.toBitVec.toNat j = 1 ∨ kid R i j := by
  have hlk : ∀ j, j < n → 1 ≤ lk R (hv R (nI s) n) n j := fun j hj => by rw [lk_st R _ n j hj]; exact lk_pos _ _ _ _
  have hst : ∀ j, j < i → lk R (hv R (nI s) n) i j = lk R (hv R (nI s) n) n j := fun j hj => by rw [lk_st R _ i j hj, lk_st R _ n j (by omega)]
  have hi' := lk_st R (hv R (nI s) n) n i hi
  have hbit : ∀ a, a < 60 → (lg_cmp (m &&& ((1 : Int64) <<< (Int32.toInt64 (nI a) &&& 63))) (0 : Int64) = 0 ↔ hv R (nI s) n a = 0) := by
    intro a ha
    rw [and_bit m ha]
    obtain ⟨q1, q2⟩ := hm.1 a ha
    constructor
    · intro z
      rcases q1 with q1 | q1
      · exact q1
      · have := q2.mpr q1; unfold bt at z; omega
    · intro z
      have : ¬ m.toBitVec.toNat / 2 ^ a % 2 = 1 := fun w => absurd (z.symm.trans (q2.mp w)) (by decide)
      unfold bt; omega
  rcases ht.1 i hi with ⟨h1, h2, h3⟩ | ⟨h1, a, h2, h3, h4⟩ | ⟨h1, a, b, h2, h3, h4, h5, h6⟩
  · obtain ⟨n1, n2, n3⟩ := isL_ne h1
    refine ⟨0, ?_, ?_, fun j hj => .inl ?_⟩
    · unfold f_X3_lookedAtFrom b_X3_lookedAtFrom_34
      rw [ix_nI (show i < 60 by omega) (by decide), ix_nI (show i < 60 by omega) (by decide), cl i (by omega), h2, h3, ix_nI (show i < 60 by omega) (by decide)]
      simp only [ix_nI (α := Int64) (show i < 60 by omega) (show 60 < 2 ^ 31 by decide), if_neg n1, if_neg n2, if_neg n3, ite_self]
    · rw [show L ||| 0 = L from by simp]
      rw [hi']
      unfold lk1
      rw [if_neg n1, if_neg n2, if_neg n3]
      omega
    · rw [show L ||| 0 = L from by simp] at hj; exact hj
  · have ka : kid R i a := .inl ⟨h1, h3⟩
    obtain ⟨g1, g2, g3⟩ := look_1 (W := fun j => lk R (hv R (nI s) n) n j - 1) h2 (by omega) (hc a h2 ka)
    refine ⟨((1 : Int64) <<< (Int32.toInt64 (nI a) &&& 63)), ?_, ?_, fun j hj => ?_⟩
    · unfold f_X3_lookedAtFrom b_X3_lookedAtFrom_34
      rw [ix_nI (show i < 60 by omega) (by decide), ix_nI (show i < 60 by omega) (by decide), cl i (by omega), h3, h4, ix_nI (show i < 60 by omega) (by decide)]
      simp only [ix_nI (α := Int64) (show i < 60 by omega) (show 60 < 2 ^ 31 by decide), if_pos h1, ite_self]
    · rw [g1, g2, hi']
      unfold lk1
      rw [if_pos h1, h3, cl a (by omega), hst a h2]
      have := hlk a (by omega)
      omega
    · rw [g3 j] at hj
      by_cases e : j = a
      · subst e; exact .inr ka
      · rw [if_neg e] at hj; exact .inl hj
  · have hk33 : R.1 i ≠ 33 := by rcases h1 with h1 | h1 <;> rw [h1] <;> decide
    have ka : kid R i a := .inr ⟨h1, .inl h5⟩
    have kb : kid R i b := .inr ⟨h1, .inr h6⟩
    obtain ⟨g1, g2, g3⟩ := look_1 (W := fun j => lk R (hv R (nI s) n) n j - 1) h2 (by omega) (hc a h2 ka)
    have hb0 : bt (L ||| ((1 : Int64) <<< (Int32.toInt64 (nI a) &&& 63))).toBitVec.toNat b = 0 := by
      rw [g3 b, if_neg (fun e => h4 e.symm)]; exact hc b h3 kb
    obtain ⟨d1, d2, d3⟩ := look_1 (W := fun j => lk R (hv R (nI s) n) n j - 1) h3 (by omega) hb0
    have pa := hlk a (by omega)
    have pb := hlk b (by omega)
    have eor : L ||| (((1 : Int64) <<< (Int32.toInt64 (nI a) &&& 63)) ||| ((1 : Int64) <<< (Int32.toInt64 (nI b) &&& 63))) = (L ||| ((1 : Int64) <<< (Int32.toInt64 (nI a) &&& 63))) ||| ((1 : Int64) <<< (Int32.toInt64 (nI b) &&& 63)) := by rw [Int64.or_assoc]
    have one : (∃ q : Int64, q = ((1 : Int64) <<< (Int32.toInt64 (nI a) &&& 63)) ∧ f_X3_lookedAtFrom R (nI i) m = some q ∧ lk R (hv R (nI s) n) n i = 1 + lk R (hv R (nI s) n) n a) ∨ (∃ q : Int64, q = (((1 : Int64) <<< (Int32.toInt64 (nI a) &&& 63)) ||| ((1 : Int64) <<< (Int32.toInt64 (nI b) &&& 63))) ∧ f_X3_lookedAtFrom R (nI i) m = some q ∧ lk R (hv R (nI s) n) n i = 1 + lk R (hv R (nI s) n) n a + lk R (hv R (nI s) n) n b) := by
      unfold f_X3_lookedAtFrom b_X3_lookedAtFrom_34 b_X3_lookedAtFrom_94 b_X3_lookedAtFrom_110
      rw [ix_nI (show i < 60 by omega) (by decide), ix_nI (show i < 60 by omega) (by decide), cl i (by omega), h5, h6, ix_nI (show i < 60 by omega) (by decide), ix_nI (show i < 60 by omega) (by decide), hi']
      unfold lk1
      rw [if_neg hk33, if_neg hk33, if_neg hk33, h5, h6, cl a (by omega), cl b (by omega), hst a h2, hst b h3]
      have k1 : ¬ (1 : Int32) = 0 := by decide
      rcases h1 with h1 | h1
      · simp only [if_pos h1]
        by_cases c : hv R (nI s) n a = 0
        · rw [if_pos ((hbit a (by omega)).mpr c), if_pos c]
          exact .inl ⟨_, rfl, by simp, rfl⟩
        · rw [if_neg (fun z => c ((hbit a (by omega)).mp z)), if_neg c]
          exact .inr ⟨_, rfl, by simp [k1], rfl⟩
      · have k38 : ¬ R.1 i = 38 := by rw [h1]; decide
        simp only [if_neg k38, if_pos h1]
        by_cases c : hv R (nI s) n a = 0
        · rw [if_pos ((hbit a (by omega)).mpr c), if_pos c]
          exact .inr ⟨_, rfl, by simp, rfl⟩
        · rw [if_neg (fun z => c ((hbit a (by omega)).mp z)), if_neg c]
          exact .inl ⟨_, rfl, by simp [k1], rfl⟩
    rcases one with ⟨q, rfl, f1, f2⟩ | ⟨q, rfl, f1, f2⟩
    · refine ⟨_, f1, ?_, fun j hj => ?_⟩
      · rw [g1, g2, f2]; omega
      · rw [g3 j] at hj
        by_cases e : j = a
        · subst e; exact .inr ka
        · rw [if_neg e] at hj; exact .inl hj
    · refine ⟨_, f1, ?_, fun j hj => ?_⟩
      · rw [eor, d1, d2, g1, g2, f2]; omega
      · rw [eor, d3 j] at hj
        by_cases e : j = b
        · subst e; exact .inr kb
        · rw [if_neg e, g3 j] at hj
          by_cases e2 : j = a
          · subst e2; exact .inr ka
          · rw [if_neg e2] at hj; exact .inl hj
theorem lookedAt_ok {R : Ru} {s n N : Nat} (hN : 5000 ≤ N) (hs : s < 256) (hn : 1 ≤ n ∧ n ≤ 60) (en : R.2.2.2.2.1 = nI n) (ht : treeOK R n) : f_X3_lookedAt N R (nI s) = some (nI (lk R (hv R (nI s) n) n (n - 1))) := by
  obtain ⟨m, h1, h2⟩ := holding_ok hN hs hn.2 en (fun i hi => tree_node hn.2 ht hi)
  have e : R.2.2.2.2.1 - (1 : Int32) = nI (n - 1) := by
    rw [en]
    have := nI_pred (n - 1)
    rw [show n - 1 + 1 = n from by omega] at this
    exact this
  have e2 : (if (60 : Int32) < R.2.2.2.2.1 then (60 : Int32) else R.2.2.2.2.1) = nI n := by
    rw [en, if_neg (show ¬ (60 : Int32) < nI n from nI_nlt (a := 60) hn.2 (by decide))]
  unfold f_X3_lookedAt
  rw [h1, Option.bind_some, e, e2]
  have hpos : 1 ≤ lk R (hv R (nI s) n) n (n - 1) := by rw [lk_st R _ n (n - 1) (by omega)]; exact lk_pos _ _ _ _
  obtain ⟨o, g1, g2⟩ := lp_m (body := b_X3_lookedAt_29 N R (nI s)) (P := fun k st => k ≤ n ∧ ∃ L : Int64, st = (m, L, nI k - 1) ∧ pcn 8 L.toBitVec.toNat + sm (fun j => lk R (hv R (nI s) n) n j - 1) L.toBitVec.toNat k = lk R (hv R (nI s) n) n (n - 1) ∧ ∀ j, bt L.toBitVec.toNat j = 1 → j = n - 1 ∨ ∃ p, k ≤ p ∧ p < n ∧ kid R p j) (Q := fun o => o = nI (lk R (hv R (nI s) n) n (n - 1))) (by
    rintro k st ⟨hk, L, rfl, hsum, hbits⟩
    by_cases k0 : k = 0
    · subst k0
      refine .inl ⟨nI (lk R (hv R (nI s) n) n (n - 1)), fun K => ?_, rfl⟩
      unfold b_X3_lookedAt_29
      refine (if_pos (show nI 0 - 1 < 0 by decide)).trans ?_
      dsimp only
      rw [bitCount_ok, Option.bind_some]
      have : sm (fun j => lk R (hv R (nI s) n) n j - 1) L.toBitVec.toNat 0 = 0 := rfl
      rw [this, Nat.add_zero] at hsum
      rw [hsum]
    · obtain ⟨i, rfl⟩ : ∃ i, k = i + 1 := ⟨k - 1, by omega⟩
      have ei : nI (i + 1) - 1 = nI i := nI_pred i
      rw [ei]
      have b01 : bt L.toBitVec.toNat i = 0 ∨ bt L.toBitVec.toNat i = 1 := by unfold bt; omega
      have hs1 : sm (fun j => lk R (hv R (nI s) n) n j - 1) L.toBitVec.toNat (i + 1) = sm (fun j => lk R (hv R (nI s) n) n j - 1) L.toBitVec.toNat i + bt L.toBitVec.toNat i * (lk R (hv R (nI s) n) n i - 1) := rfl
      have b1 : ∀ K, b_X3_lookedAt_29 N R (nI s) K (m, L, nI i) = ((f_X3_isIn R L (nI i)).bind fun o4 => (if o4 = 0 then K (m, L, nI i - 1) else ((f_X3_lookedAtFrom R (nI i) m).bind fun o7 => K (m, (L ||| o7), nI i - 1)))) := by
        intro K
        unfold b_X3_lookedAt_29 b_X3_lookedAt_57
        exact if_neg (show ¬ nI i < 0 from nI_pos (by omega))
      rcases b01 with b | b
      · refine .inr ⟨i, (m, L, nI i - 1), by omega, ⟨by omega, L, rfl, ?_, fun j hj => ?_⟩, fun K => ?_⟩
        · rw [hs1, b, Nat.zero_mul, Nat.add_zero] at hsum; exact hsum
        · rcases hbits j hj with z | ⟨p, z1, z2, z3⟩
          · exact .inl z
          · exact .inr ⟨p, by omega, z2, z3⟩
        · rw [b1, isIn_ok R L (show i < 60 by omega), if_neg (show ¬ L.toBitVec.toNat / 2 ^ i % 2 = 1 from fun z => by unfold bt at b; omega), Option.bind_some, if_pos rfl]
      · obtain ⟨q, f1, f2, f3⟩ := from_ok (m := m) (L := L) (s := s) (i := i) hn.2 ht (by omega) h2 (by
          intro c hc hkid
          by_cases z : bt L.toBitVec.toNat c = 0
          · exact z
          · exfalso
            rcases hbits c (by unfold bt at z ⊢; omega) with w | ⟨p, w1, w2, w3⟩
            · omega
            · have := ht.2 i p c (by omega) w2 (by omega) hkid w3
              omega)
        refine .inr ⟨i, (m, L ||| q, nI i - 1), by omega, ⟨by omega, L ||| q, rfl, ?_, fun j hj => ?_⟩, fun K => ?_⟩
        · rw [hs1, b, Nat.one_mul] at hsum
          omega
        · rcases f3 j hj with w | w
          · rcases hbits j w with z | ⟨p, z1, z2, z3⟩
            · exact .inl z
            · exact .inr ⟨p, by omega, z2, z3⟩
          · exact .inr ⟨i, Nat.le_refl _, by omega, w⟩
        · rw [b1, isIn_ok R L (show i < 60 by omega), if_pos (show L.toBitVec.toNat / 2 ^ i % 2 = 1 from b), Option.bind_some, if_neg (show ¬ (1 : Int32) = 0 by decide), f1, Option.bind_some])
    N n (m, ((1 : Int64) <<< (Int32.toInt64 (nI (n - 1)) &&& 63)), nI n - 1) (by omega) (by
    refine ⟨Nat.le_refl _, _, rfl, ?_, fun j hj => .inl ?_⟩
    · have z : bt 0 (n - 1) = 0 := by unfold bt; rw [Nat.zero_div]
      have p1 := pcn_set 8 (n - 1) 0 (by omega) z
      have p2 := sm_set (W := fun j => lk R (hv R (nI s) n) n j - 1) z n
      rw [Nat.zero_add] at p1 p2
      rw [one_shl (show n - 1 < 60 by omega), p1, p2, pcn_0, sm_0, if_pos (show n - 1 < n by omega)]
      omega
    · rw [one_shl (show n - 1 < 60 by omega)] at hj
      have z : bt 0 (n - 1) = 0 := by unfold bt; rw [Nat.zero_div]
      have p1 := bt_set z j
      rw [Nat.zero_add] at p1
      rw [p1] at hj
      by_cases c : j = n - 1
      · exact c
      · rw [if_neg c] at hj
        unfold bt at hj
        rw [Nat.zero_div] at hj
        exact absurd hj (by decide))
  rw [← g2]
  exact g1
theorem pv_ext {R R' : Ru} {s : Int32} {H H' : Fn} {i : Nat} (e : R'.1 i = R.1 i ∧ R'.2.1 i = R.2.1 i ∧ R'.2.2.1 i = R.2.2.1 i) (h : H' = H) : pv R' s H' i = pv R s H i := by
  obtain ⟨e1, e2, e3⟩ := e
  subst h
  unfold pv
  rw [e1, e2, e3]
theorem hv_ext {R R' : Ru} {s : Int32} : ∀ k, (∀ i, i < k → R'.1 i = R.1 i ∧ R'.2.1 i = R.2.1 i ∧ R'.2.2.1 i = R.2.2.1 i) → hv R' s k = hv R s k
  | 0, _ => rfl
  | k + 1, h => by
    have ih := hv_ext (R := R) (R' := R') (s := s) k (fun i hi => h i (by omega))
    show upd (hv R' s k) k (pv R' s (hv R' s k) k) = upd (hv R s k) k (pv R s (hv R s k) k)
    rw [pv_ext (h k (by omega)) ih, ih]
theorem lk1_ext {R R' : Ru} {n i : Nat} {H H' : Fn} {L L' : Nat → Nat} (hn : n ≤ 60) (ht : treeOK R n) (hi : i < n) (e : R'.1 i = R.1 i ∧ R'.2.1 i = R.2.1 i ∧ R'.2.2.1 i = R.2.2.1 i) (hH : ∀ j, j < i → H' j = H j) (hL : ∀ j, j < i → L' j = L j) : lk1 R' H' L' i = lk1 R H L i := by
  obtain ⟨e1, e2, e3⟩ := e
  unfold lk1
  rw [e1, e2, e3]
  rcases ht.1 i hi with ⟨h1, h2, h3⟩ | ⟨h1, a, h2, h3, h4⟩ | ⟨h1, a, b, h2, h3, h4, h5, h6⟩
  · obtain ⟨n1, n2, n3⟩ := isL_ne h1
    rw [if_neg n1, if_neg n1, if_neg n2, if_neg n2, if_neg n3, if_neg n3]
  · rw [if_pos h1, if_pos h1, h3, cl a (by omega), hL a h2]
  · rw [h5, h6, cl a (by omega), cl b (by omega), hL a h2, hL b h3, hH a h2]
theorem lk_ext {R R' : Ru} {n : Nat} {H H' : Fn} (hn : n ≤ 60) (ht : treeOK R n) (e : ∀ i, i < n → R'.1 i = R.1 i ∧ R'.2.1 i = R.2.1 i ∧ R'.2.2.1 i = R.2.2.1 i) (hH : ∀ j, j < n → H' j = H j) : ∀ k, k ≤ n → lk R' H' k = lk R H k
  | 0, _ => rfl
  | k + 1, hk => by
    have ih := lk_ext (R := R) (R' := R') hn ht e hH k (by omega)
    funext j
    show (if j = k then lk1 R' H' (lk R' H' k) k else lk R' H' k j) = (if j = k then lk1 R H (lk R H k) k else lk R H k j)
    rw [ih, lk1_ext hn ht (show k < n by omega) (e k (by omega)) (fun j hj => hH j (by omega)) (fun j _ => rfl)]
def app (R : Ru) (c a b d : Int32) (n : Nat) : Ru := (upd R.1 n c, upd R.2.1 n a, upd R.2.2.1 n b, upd R.2.2.2.1 n d, nI (n + 1), R.2.2.2.2.2)
theorem add_ok {R : Ru} {n : Nat} (e : R.2.2.2.2.1 = nI n) (hn : n < 60) {c : Int32} (hc : vp_nar .char c = c) (a b d : Int32) : f_X3_add R c a b d = some (nI n, app R c a b d n) := by
  unfold f_X3_add
  rw [e, if_pos (show nI n < (60 : Int32) from nI_lt (b := 60) hn (by decide)), ix_nI hn (by decide), ix_nI hn (by decide), ix_nI hn (by decide), ix_nI hn (by decide), cl n (by omega), hc, nI_1, nI_pred]
  rfl
theorem nar_ok {c : Int32} (h : c = 33 ∨ c = 38 ∨ c = 124 ∨ c = 40 ∨ isL c) : vp_nar .char c = c := by
  rw [vp_nar_char]
  rcases h with rfl | rfl | rfl | rfl | rfl | rfl | rfl | rfl | rfl | rfl | rfl | rfl <;> decide
def nopar (R : Ru) (n x : Nat) : Prop := ∀ p, p < n → ¬ kid R p x
theorem kid_lt {R : Ru} {n : Nat} (hn : n ≤ 60) (ht : treeOK R n) {p c : Nat} (hp : p < n) (hc : c < 60) (h : kid R p c) : c < p := by
  rcases ht.1 p hp with ⟨h1, h2, h3⟩ | ⟨h1, a, h2, h3, h4⟩ | ⟨h1, a, b, h2, h3, h4, h5, h6⟩
  · obtain ⟨n1, n2, n3⟩ := isL_ne h1
    rcases h with ⟨g, _⟩ | ⟨g | g, _⟩
    · exact absurd g n1
    · exact absurd g n2
    · exact absurd g n3
  · rcases h with ⟨_, g⟩ | ⟨g, _⟩
    · rw [h3] at g
      have := (nI_eq (by omega) (by omega)).mp g
      omega
    · rw [h1] at g
      rcases g with g | g
      · exact absurd g (by decide)
      · exact absurd g (by decide)
  · rcases h with ⟨g, _⟩ | ⟨_, g | g⟩
    · rcases h1 with h1 | h1 <;> rw [h1] at g <;> exact absurd g (by decide)
    · rw [h5] at g
      have := (nI_eq (by omega) (by omega)).mp g
      omega
    · rw [h6] at g
      have := (nI_eq (by omega) (by omega)).mp g
      omega
theorem app_kid {R : Ru} {c a b d : Int32} {n p x : Nat} (hp : p < n) : kid (app R c a b d n) p x ↔ kid R p x := by
  unfold kid app
  dsimp only
  rw [upd_n (show p ≠ n by omega), upd_n (show p ≠ n by omega), upd_n (show p ≠ n by omega)]
theorem app_kid_n {R : Ru} {c a b d : Int32} {n x : Nat} : kid (app R c a b d n) n x ↔ (c = 33 ∧ a = nI x) ∨ ((c = 38 ∨ c = 124) ∧ (a = nI x ∨ b = nI x)) := by
  unfold kid app
  dsimp only
  rw [upd_e rfl, upd_e rfl, upd_e rfl]
theorem app_ok {R : Ru} {n : Nat} {s c a b d : Int32} (hn : n < 60) (ht : treeOK R n)
    (new : (isL c ∧ a = nI 0 ∧ b = nI 0) ∨ (c = 33 ∧ ∃ x, x < n ∧ a = nI x ∧ b = nI x ∧ nopar R n x) ∨ ((c = 38 ∨ c = 124) ∧ ∃ x y, x < n ∧ y < n ∧ x ≠ y ∧ a = nI x ∧ b = nI y ∧ nopar R n x ∧ nopar R n y)) :
    treeOK (app R c a b d n) (n + 1) ∧
    (∀ j, j < n → hv (app R c a b d n) s (n + 1) j = hv R s n j) ∧
    hv (app R c a b d n) s (n + 1) n = pv (app R c a b d n) s (hv R s n) n ∧
    (∀ j, j < n → lk (app R c a b d n) (hv (app R c a b d n) s (n + 1)) (n + 1) j = lk R (hv R s n) n j) ∧
    lk (app R c a b d n) (hv (app R c a b d n) s (n + 1)) (n + 1) n = lk1 (app R c a b d n) (hv R s n) (lk R (hv R s n) n) n ∧
    (∀ x, x < n → nopar R n x → (isL c ∨ (a ≠ nI x ∧ b ≠ nI x)) → nopar (app R c a b d n) (n + 1) x) ∧
    nopar (app R c a b d n) (n + 1) n := by
  have ag : ∀ i, i < n → (app R c a b d n).1 i = R.1 i ∧ (app R c a b d n).2.1 i = R.2.1 i ∧ (app R c a b d n).2.2.1 i = R.2.2.1 i := fun i hi => ⟨upd_n (by omega), upd_n (by omega), upd_n (by omega)⟩
  have at1 : (app R c a b d n).1 n = c := upd_e rfl
  have at2 : (app R c a b d n).2.1 n = a := upd_e rfl
  have at3 : (app R c a b d n).2.2.1 n = b := upd_e rfl
  have npar : ∀ x, x < n → kid (app R c a b d n) n x → nopar R n x := by
    intro x hx hk
    rcases app_kid_n.mp hk with ⟨k1, k2⟩ | ⟨k1, k2⟩
    · rcases new with ⟨h1, _⟩ | ⟨_, y, hy, e1, _, h4⟩ | ⟨h1, _⟩
      · exact absurd k1 (isL_ne h1).1
      · rw [e1] at k2
        rw [← (nI_eq (by omega) (by omega)).mp k2]; exact h4
      · rw [k1] at h1
        rcases h1 with h1 | h1 <;> exact absurd h1 (by decide)
    · rcases new with ⟨h1, _⟩ | ⟨h1, _⟩ | ⟨_, y, z, hy, hz, hne, e1, e2, h4, h5⟩
      · rcases k1 with k1 | k1
        · exact absurd k1 (isL_ne h1).2.1
        · exact absurd k1 (isL_ne h1).2.2
      · rw [h1] at k1
        rcases k1 with k1 | k1 <;> exact absurd k1 (by decide)
      · rcases k2 with k2 | k2
        · rw [e1] at k2
          rw [← (nI_eq (by omega) (by omega)).mp k2]; exact h4
        · rw [e2] at k2
          rw [← (nI_eq (by omega) (by omega)).mp k2]; exact h5
  have klt : ∀ x, x < 60 → kid (app R c a b d n) n x → x < n := by
    intro x hx hk
    rcases app_kid_n.mp hk with ⟨k1, k2⟩ | ⟨k1, k2⟩
    · rcases new with ⟨h1, _⟩ | ⟨_, y, hy, e1, _, h4⟩ | ⟨h1, _⟩
      · exact absurd k1 (isL_ne h1).1
      · rw [e1] at k2
        rw [← (nI_eq (by omega) (by omega)).mp k2]; exact hy
      · rw [k1] at h1
        rcases h1 with h1 | h1 <;> exact absurd h1 (by decide)
    · rcases new with ⟨h1, _⟩ | ⟨h1, _⟩ | ⟨_, y, z, hy, hz, hne, e1, e2, h4, h5⟩
      · rcases k1 with k1 | k1
        · exact absurd k1 (isL_ne h1).2.1
        · exact absurd k1 (isL_ne h1).2.2
      · rw [h1] at k1
        rcases k1 with k1 | k1 <;> exact absurd k1 (by decide)
      · rcases k2 with k2 | k2
        · rw [e1] at k2
          rw [← (nI_eq (by omega) (by omega)).mp k2]; exact hy
        · rw [e2] at k2
          rw [← (nI_eq (by omega) (by omega)).mp k2]; exact hz
  have tree : treeOK (app R c a b d n) (n + 1) := by
    refine ⟨fun i hi => ?_, fun i j x hi hj hx k1 k2 => ?_⟩
    · by_cases q : i = n
      · subst q
        rw [at1, at2, at3]
        rcases new with h | ⟨h1, x, hx, e1, e2, _⟩ | ⟨h1, x, y, hx, hy, hne, e1, e2, _⟩
        · exact .inl h
        · exact .inr (.inl ⟨h1, x, hx, e1, e2⟩)
        · exact .inr (.inr ⟨h1, x, y, hx, hy, hne, e1, e2⟩)
      · obtain ⟨a1, a2, a3⟩ := ag i (by omega)
        rw [a1, a2, a3]
        exact ht.1 i (by omega)
    · by_cases q : i = n
      · by_cases q2 : j = n
        · omega
        · subst q
          have := klt x hx k1
          exact absurd ((app_kid (show j < i by omega)).mp k2) (npar x this k1 j (by omega))
      · by_cases q2 : j = n
        · subst q2
          have := klt x hx k2
          exact absurd ((app_kid (show i < j by omega)).mp k1) (npar x this k2 i (by omega))
        · exact ht.2 i j x (by omega) (by omega) hx ((app_kid (by omega)).mp k1) ((app_kid (by omega)).mp k2)
  have hx := hv_ext (R := R) (R' := app R c a b d n) (s := s) n ag
  have hs : ∀ j, j < n → hv (app R c a b d n) s (n + 1) j = hv R s n j := by
    intro j hj
    show upd (hv (app R c a b d n) s n) n _ j = _
    rw [upd_n (by omega), hx]
  have ls := lk_ext (R := R) (R' := app R c a b d n) (by omega) ht ag hs n (Nat.le_refl _)
  refine ⟨tree, hs, ?_, fun j hj => ?_, ?_, fun x hx1 hx2 hx3 p hp => ?_, fun p hp hk => ?_⟩
  · show upd (hv (app R c a b d n) s n) n _ n = _
    rw [upd_e rfl, hx]
  · show (if j = n then _ else lk (app R c a b d n) (hv (app R c a b d n) s (n + 1)) n j) = _
    rw [if_neg (by omega), ls]
  · show (if n = n then lk1 (app R c a b d n) (hv (app R c a b d n) s (n + 1)) (lk (app R c a b d n) (hv (app R c a b d n) s (n + 1)) n) n else _) = _
    rw [if_pos rfl, ls]
    exact lk1_ext (by omega) tree (Nat.lt_succ_self n) ⟨rfl, rfl, rfl⟩ hs (fun j _ => rfl)
  · by_cases q : p = n
    · subst q
      intro hk
      rcases app_kid_n.mp hk with ⟨k1, k2⟩ | ⟨k1, k2⟩
      · rcases hx3 with h | ⟨h, _⟩
        · exact absurd k1 (isL_ne h).1
        · exact h k2
      · rcases hx3 with h | ⟨h, h'⟩
        · rcases k1 with k1 | k1
          · exact absurd k1 (isL_ne h).2.1
          · exact absurd k1 (isL_ne h).2.2
        · rcases k2 with k2 | k2
          · exact h k2
          · exact h' k2
    · rw [app_kid (show p < n by omega)]
      exact hx2 p (by omega)
  · have := kid_lt (by omega) tree hp (by omega) hk
    omega
