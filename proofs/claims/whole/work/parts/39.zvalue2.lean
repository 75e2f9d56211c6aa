theorem rep1_0 : rep1 0 (fun _ => 0) 0 := by
  refine ⟨fun i hi => ⟨.inl rfl, ?_⟩, fun i hi => rfl⟩
  rw [show (0 : Int64).toBitVec.toNat = 0 from rfl, Nat.zero_div]
  exact ⟨fun h => absurd h (by decide), fun h => absurd (show (0 : Int32) = 1 from h) (by decide)⟩
theorem bit_add {x i j : Nat} (h : x / 2 ^ i % 2 = 0) : ((x + 2 ^ i) / 2 ^ j % 2 = 1 ↔ (j = i ∨ x / 2 ^ j % 2 = 1)) := by
  have e := or_bit x i
  rw [if_neg (by omega)] at e
  have t : (x ||| 2 ^ i).testBit j = (x.testBit j || decide (i = j)) := by rw [Nat.testBit_or, Nat.testBit_two_pow]
  rw [e, Nat.testBit_eq_decide_div_mod_eq, Nat.testBit_eq_decide_div_mod_eq] at t
  by_cases q : j = i
  · subst q
    simp at t
    exact ⟨fun _ => .inl rfl, fun _ => t⟩
  · have q' : ¬ i = j := fun z => q z.symm
    simp [q'] at t
    constructor
    · intro z; exact .inr (t.mp z)
    · rintro (z | z)
      · exact absurd z q
      · exact t.mpr z
theorem rep1_s {m : Int64} {H : Fn} {k : Nat} (hk : k < 60) (h : rep1 m H k) : rep1 m (upd H k 0) (k + 1) ∧ rep1 (m ||| ((1 : Int64) <<< (Int32.toInt64 (nI k) &&& 63))) (upd H k 1) (k + 1) := by
  have hk0 : H k = 0 := h.2 k (Nat.le_refl _)
  have hb : m.toBitVec.toNat / 2 ^ k % 2 = 0 := by
    have := (h.1 k hk).2
    rw [hk0] at this
    by_cases c : m.toBitVec.toNat / 2 ^ k % 2 = 1
    · exact absurd (this.mp c) (by decide)
    · omega
  refine ⟨⟨fun i hi => ?_, fun i hi => ?_⟩, ⟨fun i hi => ?_, fun i hi => ?_⟩⟩
  · by_cases e : i = k
    · subst e
      rw [upd_e rfl]
      have := h.1 i hi
      rw [hk0] at this
      exact this
    · rw [upd_n e]; exact h.1 i hi
  · rw [upd_n (by omega)]; exact h.2 i (by omega)
  · rw [set_bit m hk, if_neg (by omega), bit_add hb]
    by_cases e : i = k
    · subst e
      rw [upd_e rfl]
      exact ⟨.inr rfl, ⟨fun _ => rfl, fun _ => .inl rfl⟩⟩
    · rw [upd_n e]
      refine ⟨(h.1 i hi).1, ⟨fun z => ?_, fun z => .inr ((h.1 i hi).2.mpr z)⟩⟩
      rcases z with z | z
      · exact absurd z e
      · exact (h.1 i hi).2.mp z
  · rw [upd_n (by omega)]; exact h.2 i (by omega)
theorem holding_ok {R : Ru} {s n N : Nat} (hN : 5000 ≤ N) (hs : s < 256) (hn : n ≤ 60) (en : R.2.2.2.2.1 = nI n) (hok : ∀ i, i < n → nodeOK R i) : ∃ m : Int64, f_X3_holding N R (nI s) = some m ∧ rep1 m (hv R (nI s) n) n := by
  refine lp_m (body := b_X3_holding_5 N R (nI s)) (P := fun k st => k ≤ n ∧ ∃ m : Int64, st = (m, nI (n - k)) ∧ rep1 m (hv R (nI s) (n - k)) (n - k)) (Q := fun m => rep1 m (hv R (nI s) n) n) ?_ N n ((0 : Int64), (0 : Int32)) (by omega) ⟨Nat.le_refl _, 0, by rw [Nat.sub_self]; rfl, by rw [Nat.sub_self]; exact rep1_0⟩
  rintro k st ⟨hk, m, rfl, hr⟩
  by_cases k0 : k = 0
  · subst k0
    refine .inl ⟨m, fun K => ?_, hr⟩
    unfold b_X3_holding_5 b_X3_holding_45
    exact if_pos (show R.2.2.2.2.1 ≤ nI (n - 0) by rw [en]; exact nI_le (by omega) (by omega))
  · obtain ⟨p1, p2⟩ := part_ok hs (show n - k < 60 by omega) (hok (n - k) (by omega)) hr
    obtain ⟨r1, r2⟩ := rep1_s (show n - k < 60 by omega) hr
    have ek : n - (k - 1) = n - k + 1 := by omega
    have e0 : ¬ R.2.2.2.2.1 ≤ nI (n - k) := by rw [en]; exact nI_ge (by omega) (by omega)
    have e1 : ¬ (60 : Int32) ≤ nI (n - k) := nI_ge (show n - k < 60 by omega) (by decide)
    have eh : hv R (nI s) (n - (k - 1)) = upd (hv R (nI s) (n - k)) (n - k) (pv R (nI s) (hv R (nI s) (n - k)) (n - k)) := by rw [ek]; rfl
    rcases p2 with z | z
    · refine .inr ⟨k - 1, (m, nI (n - (k - 1))), by omega, ⟨by omega, m, rfl, ?_⟩, fun K => ?_⟩
      · rw [eh, z, ek]; exact r1
      · unfold b_X3_holding_5 b_X3_holding_39
        refine (if_neg e0).trans ((if_neg e1).trans ?_)
        dsimp only
        rw [p1, Option.bind_some, z, if_pos rfl, nI_1, ek]
    · refine .inr ⟨k - 1, (m ||| ((1 : Int64) <<< (Int32.toInt64 (nI (n - k)) &&& 63)), nI (n - (k - 1))), by omega, ⟨by omega, _, rfl, ?_⟩, fun K => ?_⟩
      · rw [eh, z, ek]; exact r2
      · unfold b_X3_holding_5 b_X3_holding_39
        refine (if_neg e0).trans ((if_neg e1).trans ?_)
        dsimp only
        rw [p1, Option.bind_some, z, if_neg (show ¬ (1 : Int32) = 0 by decide), nI_1, ek]
theorem holds_ok {R : Ru} {s n N : Nat} (hN : 5000 ≤ N) (hs : s < 256) (hn : 1 ≤ n ∧ n ≤ 60) (en : R.2.2.2.2.1 = nI n) (hok : ∀ i, i < n → nodeOK R i) : f_X3_holds N R (nI s) = some (hv R (nI s) n (n - 1)) ∧ (hv R (nI s) n (n - 1) = 0 ∨ hv R (nI s) n (n - 1) = 1) := by
  obtain ⟨m, h1, h2⟩ := holding_ok hN hs hn.2 en hok
  obtain ⟨q1, q2⟩ := h2.1 (n - 1) (by omega)
  refine ⟨?_, q1⟩
  unfold f_X3_holds
  have e : R.2.2.2.2.1 - (1 : Int32) = nI (n - 1) := by
    rw [en]
    have := nI_pred (n - 1)
    rw [show n - 1 + 1 = n from by omega] at this
    exact this
  rw [h1, Option.bind_some, e, isIn_ok R m (show n - 1 < 60 by omega)]
  by_cases c : m.toBitVec.toNat / 2 ^ (n - 1) % 2 = 1
  · rw [if_pos c, Option.bind_some, q2.mp c]; exact zb_ok (.inr rfl)
  · rw [if_neg c, Option.bind_some]
    rcases q1 with q1 | q1
    · rw [q1]; exact zb_ok (.inl rfl)
    · exact absurd (q2.mpr q1) c
