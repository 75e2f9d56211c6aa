/-! the beginning -/
theorem in_gr : gr chr7b 7 = some (0, 0) := by decide +kernel
theorem in_txt : fn0 22 = nI 7 ∧ ∀ k, k < 7 → fn0 (23 + k) = chr7b k := by decide +kernel
theorem in_row : (∀ j, j < 7 → (stI 0).1 j = fn0 j) ∧ (fn0 10 = nI 0 ∧ fn0 7 = nI 0 ∧ fn0 11 = nI 0) ∧ (fn0 8 = 0 ∧ fn0 9 = 0) ∧ (∀ j, j < 4 → fn0 (12 + j) = 0) ∧ (fn0 16 = 0 ∧ fn0 17 = 0 ∧ fn0 18 = 0 ∧ fn0 19 = 0 ∧ fn0 20 = 0 ∧ fn0 21 = 0) ∧ (∀ j, j < 30 → fn0 (143 + j) = 0) := by decide +kernel
theorem in_rng : 10 ≤ (fn0 0).toInt ∧ (fn0 0).toInt ≤ 90 ∧ 1 ≤ (fn0 1).toInt ∧ (fn0 1).toInt ≤ 40 ∧ 1 ≤ (fn0 2).toInt ∧ (fn0 2).toInt ≤ 30 ∧ 1 ≤ (fn0 3).toInt ∧ (fn0 3).toInt ≤ 99 ∧ 1 ≤ (fn0 4).toInt ∧ (fn0 4).toInt ≤ 99 ∧ 1 ≤ (fn0 5).toInt ∧ (fn0 5).toInt ≤ 999 ∧ 1 ≤ (fn0 6).toInt ∧ (fn0 6).toInt ≤ 9999 := by decide +kernel
theorem st_init (N : Nat) (hN : 5000 ≤ N) : ∃ o : Rd × Ru, f_X2_read N ((fun _ => 0), (fun _ => 0), 0, 0) 7 chr7b (7 : Int32) = some o ∧ ∀ (a : Nat) (ρ : Nat → Ru) (RS : Nat → Prop), ρ a = o.2 → RS a → RelS ρ RS (((fun _ => 0), 0), o.1, stI a, stI a, (0, 0), stI a, stI a, stI a, stI a, stI a, stI a, stI a, stI a, (fun _ => 0)) md0 := by
  obtain ⟨o, g1, g2, -⟩ := read_ok (T := chr7b) (Tt := chr7b) (len := 7) (nt := 7) (V := ((fun _ => 0), (fun _ => 0), 0, 0)) (N := N) hN (by decide) ⟨by decide, by decide⟩ (fun k _ => rfl) in_gr
  refine ⟨o, g1, fun a ρ RS ha hRS => RelS_iff.mpr ⟨⟨?_, hRS⟩, ⟨0, 0, by decide, by decide, rfl, rfl, rfl, fun j hj => absurd hj (Nat.not_lt_zero _)⟩, fun b _ => .inl ⟨rfl, rfl⟩, 0, by decide, rfl, rfl, fun k hk => absurd hk (Nat.not_lt_zero _)⟩⟩
  obtain ⟨h1, ⟨h2, h3, h4⟩, ⟨h5, h6⟩, h7, ⟨h8, h9, h10, h11, h12, h13⟩, h14⟩ := in_row
  rw [show ρ (stI a).2.2.2.2.2.2.1 = o.2 from ha]
  refine ⟨0, 0, 0, by decide, by decide, by decide, rfl, h2, rfl, h3, rfl, h4, h1, in_rng, ⟨h5.symm, ?_, ?_⟩, ⟨h6.symm, .inl h6, fun z => ?_⟩, fun j hj => (h7 j hj).symm, ⟨h8.symm, h9.symm, h10.symm, h11.symm, h12.symm, h13.symm⟩, fun i hi => absurd hi (Nat.not_lt_zero _), fun j hj => (h14 j hj).symm, 7, in_txt.1, SemA_ext g2 in_txt.2⟩
  · show 0 ≤ (fn0 8).toInt
    rw [h5]; decide
  · show (fn0 8).toInt ≤ 90
    rw [h5]; decide
  · exact absurd (h6.symm.trans z) (by decide)
