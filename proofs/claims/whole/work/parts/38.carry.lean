/-! one tick: the people are carried -/
theorem cb4 {N : Nat} {V V1 : St} {K : (St × Int32 × Int32) → Option (St)} {kp i : Int32} : b_X4_carryPeople_4 N V K (V1, kp, i) = (if V1.2.2.2.2.2.2.2.1 ≤ i then b_X4_carryPeople_105 N V (V1, kp) else (if (20 : Int32) ≤ i then b_X4_carryPeople_105 N V (V1, kp) else (ix i 20 (if ((V1.2.1 (Int32.toNatClampNeg i)) + V1.2.2.2.2.2.2.2.2.2.2.2.1) < (1000 : Int32) then (ix kp 20 (ix i 20 (ix kp 20 (ix i 20 (ix kp 20 (b_X4_carryPeople_99 N V K ((V1.1, (upd V1.2.1 (Int32.toNatClampNeg kp) ((V1.2.1 (Int32.toNatClampNeg i)) + V1.2.2.2.2.2.2.2.2.2.2.2.1)), (upd V1.2.2.1 (Int32.toNatClampNeg kp) (V1.2.2.1 (Int32.toNatClampNeg i))), (upd V1.2.2.2.1 (Int32.toNatClampNeg kp) (V1.2.2.2.1 (Int32.toNatClampNeg i))), V1.2.2.2.2.1, V1.2.2.2.2.2.1, V1.2.2.2.2.2.2.1, V1.2.2.2.2.2.2.2.1, V1.2.2.2.2.2.2.2.2.1, V1.2.2.2.2.2.2.2.2.2.1, V1.2.2.2.2.2.2.2.2.2.2.1, V1.2.2.2.2.2.2.2.2.2.2.2.1, V1.2.2.2.2.2.2.2.2.2.2.2.2.1, V1.2.2.2.2.2.2.2.2.2.2.2.2.2.1, V1.2.2.2.2.2.2.2.2.2.2.2.2.2.2.1, V1.2.2.2.2.2.2.2.2.2.2.2.2.2.2.2.1, V1.2.2.2.2.2.2.2.2.2.2.2.2.2.2.2.2.1, V1.2.2.2.2.2.2.2.2.2.2.2.2.2.2.2.2.2), (kp + (1 : Int32)), i))))))) else (ix i 20 (b_X4_carryPeople_99 N V K ((V1.1, V1.2.1, V1.2.2.1, V1.2.2.2.1, V1.2.2.2.2.1, V1.2.2.2.2.2.1, V1.2.2.2.2.2.2.1, V1.2.2.2.2.2.2.2.1, V1.2.2.2.2.2.2.2.2.1, V1.2.2.2.2.2.2.2.2.2.1, V1.2.2.2.2.2.2.2.2.2.2.1, V1.2.2.2.2.2.2.2.2.2.2.2.1, (V1.2.2.2.2.2.2.2.2.2.2.2.2.1 + (1 : Int32)), (V1.2.2.2.2.2.2.2.2.2.2.2.2.2.1 + (V1.2.2.1 (Int32.toNatClampNeg i))), V1.2.2.2.2.2.2.2.2.2.2.2.2.2.2.1, V1.2.2.2.2.2.2.2.2.2.2.2.2.2.2.2.1, V1.2.2.2.2.2.2.2.2.2.2.2.2.2.2.2.2.1, V1.2.2.2.2.2.2.2.2.2.2.2.2.2.2.2.2.2), kp, i))))))) := rfl
theorem cb6 {N : Nat} {V Q : Md} {z : Fn} {K : (Md × Int32 × Int32) → Option (Md)} {kp i : Int32} : b_X6_carry_4 N V K ((z, Q.2), kp, i) = (if (z (Int32.toNatClampNeg (10 : Int32))) ≤ i then lp (b_X6_carry_137 N V) N ((z, Q.2), kp, ((83 : Int32) + ((3 : Int32) * kp))) else ((f_X6_placeOf (z, Q.2) i).bind fun o4 => (if (o4 + (z (Int32.toNatClampNeg (8 : Int32)))) < (1000 : Int32) then ((f_X6_weight (z, Q.2) i).bind fun o7 => (ix ((83 : Int32) + ((3 : Int32) * kp)) 173 (ix (((83 : Int32) + ((3 : Int32) * i)) + (2 : Int32)) 173 (ix (((83 : Int32) + ((3 : Int32) * kp)) + (2 : Int32)) 173 (ix (((83 : Int32) + ((3 : Int32) * kp)) + (1 : Int32)) 173 (b_X6_carry_124 N V K (((upd (upd (upd z (Int32.toNatClampNeg ((83 : Int32) + ((3 : Int32) * kp))) o7) (Int32.toNatClampNeg (((83 : Int32) + ((3 : Int32) * kp)) + (2 : Int32))) ((upd z (Int32.toNatClampNeg ((83 : Int32) + ((3 : Int32) * kp))) o7) (Int32.toNatClampNeg (((83 : Int32) + ((3 : Int32) * i)) + (2 : Int32))))) (Int32.toNatClampNeg (((83 : Int32) + ((3 : Int32) * kp)) + (1 : Int32))) (o4 + (z (Int32.toNatClampNeg (8 : Int32))))), Q.2.1, Q.2.2.1, Q.2.2.2.1, Q.2.2.2.2.1, Q.2.2.2.2.2.1, Q.2.2.2.2.2.2.1, Q.2.2.2.2.2.2.2.1, Q.2.2.2.2.2.2.2.2.1, Q.2.2.2.2.2.2.2.2.2.1, Q.2.2.2.2.2.2.2.2.2.2.1, Q.2.2.2.2.2.2.2.2.2.2.2.1, Q.2.2.2.2.2.2.2.2.2.2.2.2.1, Q.2.2.2.2.2.2.2.2.2.2.2.2.2), (kp + (1 : Int32)), i))))))) else ((f_X6_weight ((upd z (Int32.toNatClampNeg (17 : Int32)) ((z (Int32.toNatClampNeg (17 : Int32))) + (1 : Int32))), Q.2.1, Q.2.2.1, Q.2.2.2.1, Q.2.2.2.2.1, Q.2.2.2.2.2.1, Q.2.2.2.2.2.2.1, Q.2.2.2.2.2.2.2.1, Q.2.2.2.2.2.2.2.2.1, Q.2.2.2.2.2.2.2.2.2.1, Q.2.2.2.2.2.2.2.2.2.2.1, Q.2.2.2.2.2.2.2.2.2.2.2.1, Q.2.2.2.2.2.2.2.2.2.2.2.2.1, Q.2.2.2.2.2.2.2.2.2.2.2.2.2) i).bind fun o13 => b_X6_carry_124 N V K (((upd (upd z (Int32.toNatClampNeg (17 : Int32)) ((z (Int32.toNatClampNeg (17 : Int32))) + (1 : Int32))) (Int32.toNatClampNeg (18 : Int32)) (((upd z (Int32.toNatClampNeg (17 : Int32)) ((z (Int32.toNatClampNeg (17 : Int32))) + (1 : Int32))) (Int32.toNatClampNeg (18 : Int32))) + o13)), Q.2.1, Q.2.2.1, Q.2.2.2.1, Q.2.2.2.2.1, Q.2.2.2.2.2.1, Q.2.2.2.2.2.2.1, Q.2.2.2.2.2.2.2.1, Q.2.2.2.2.2.2.2.2.1, Q.2.2.2.2.2.2.2.2.2.1, Q.2.2.2.2.2.2.2.2.2.2.1, Q.2.2.2.2.2.2.2.2.2.2.2.1, Q.2.2.2.2.2.2.2.2.2.2.2.2.1, Q.2.2.2.2.2.2.2.2.2.2.2.2.2), kp, i))))) := rfl
theorem cb7 {N : Nat} {V Q : Md} {z : Fn} {K : (Md × Int32 × Int32) → Option (Md)} {kp i : Int32} : b_X6_carry_137 N V K ((z, Q.2), kp, i) = (if ((83 : Int32) + ((3 : Int32) * (z (Int32.toNatClampNeg (10 : Int32))))) ≤ i then some ((upd z (Int32.toNatClampNeg (10 : Int32)) kp), Q.2.1, Q.2.2.1, Q.2.2.2.1, Q.2.2.2.2.1, Q.2.2.2.2.2.1, Q.2.2.2.2.2.2.1, Q.2.2.2.2.2.2.2.1, Q.2.2.2.2.2.2.2.2.1, Q.2.2.2.2.2.2.2.2.2.1, Q.2.2.2.2.2.2.2.2.2.2.1, Q.2.2.2.2.2.2.2.2.2.2.2.1, Q.2.2.2.2.2.2.2.2.2.2.2.2.1, Q.2.2.2.2.2.2.2.2.2.2.2.2.2) else (ix i 173 (K (((upd z (Int32.toNatClampNeg i) (0 : Int32)), Q.2.1, Q.2.2.1, Q.2.2.2.1, Q.2.2.2.2.1, Q.2.2.2.2.2.1, Q.2.2.2.2.2.2.1, Q.2.2.2.2.2.2.2.1, Q.2.2.2.2.2.2.2.2.1, Q.2.2.2.2.2.2.2.2.2.1, Q.2.2.2.2.2.2.2.2.2.2.1, Q.2.2.2.2.2.2.2.2.2.2.2.1, Q.2.2.2.2.2.2.2.2.2.2.2.2.1, Q.2.2.2.2.2.2.2.2.2.2.2.2.2), kp, (i + (1 : Int32)))))) := rfl
theorem RelSt.row {T : Nat} {R : Ru} {V : St} {z : Fn} (h : RelSt T R V z) {k p : Nat} {A W S : Int32} (ep : z 10 = nI p) (hp : p ≤ 20) (hk : k < p) (h1 : 1 ≤ W.toInt) (h2 : W.toInt ≤ 200) (hA : A.toInt < 1000) : RelSt T R (V.1, upd V.2.1 k A, upd V.2.2.1 k W, upd V.2.2.2.1 k S, V.2.2.2.2.1, V.2.2.2.2.2.1, V.2.2.2.2.2.2.1, V.2.2.2.2.2.2.2.1, V.2.2.2.2.2.2.2.2.1, V.2.2.2.2.2.2.2.2.2.1, V.2.2.2.2.2.2.2.2.2.2.1, V.2.2.2.2.2.2.2.2.2.2.2.1, V.2.2.2.2.2.2.2.2.2.2.2.2.1, V.2.2.2.2.2.2.2.2.2.2.2.2.2.1, V.2.2.2.2.2.2.2.2.2.2.2.2.2.2.1, V.2.2.2.2.2.2.2.2.2.2.2.2.2.2.2.1, V.2.2.2.2.2.2.2.2.2.2.2.2.2.2.2.2.1, V.2.2.2.2.2.2.2.2.2.2.2.2.2.2.2.2.2) (upd (upd (upd z (83 + 3 * k) W) (85 + 3 * k) S) (84 + 3 * k) A) := by
  obtain ⟨p', t, s, a1, a2, a3, b1, b2, b3, b4, b5, b6, c1, c2, c3, c4, c5, c6, c7, c8, m, hn, hs⟩ := h
  obtain rfl : p' = p := (nI_eq (by omega) (by omega)).mp (b2.symm.trans ep)
  have e : ∀ x, x < 83 ∨ 143 ≤ x → upd (upd (upd z (83 + 3 * k) W) (85 + 3 * k) S) (84 + 3 * k) A x = z x := fun x hx => by rw [upd_n (by omega), upd_n (by omega), upd_n (by omega)]
  refine ⟨p', t, s, a1, a2, a3, b1, (e 10 (by omega)).trans b2, b3, (e 7 (by omega)).trans b4, b5, (e 11 (by omega)).trans b6, fun j hj => (c1 j hj).trans (e j (by omega)).symm, ?_, ?_, ?_, fun j hj => (c5 j hj).trans (e _ (by omega)).symm, ?_, ?_, fun j hj => (c8 j hj).trans (e _ (by omega)).symm, m, (e 22 (by omega)).trans hn, ?_⟩
  · rw [e 0 (by omega), e 1 (by omega), e 2 (by omega), e 3 (by omega), e 4 (by omega), e 5 (by omega), e 6 (by omega)]; exact c2
  · rw [e 8 (by omega)]; exact c3
  · rw [e 9 (by omega), e 8 (by omega)]; exact c4
  · rw [e 16 (by omega), e 17 (by omega), e 18 (by omega), e 19 (by omega), e 20 (by omega), e 21 (by omega)]; exact c6
  · intro i hi
    show upd V.2.2.1 k W i = _ ∧ (upd V.2.1 k A i = _ ∧ _) ∧ upd V.2.2.2.1 k S i = _ ∧ _
    by_cases hik : i = k
    · subst hik
      rw [upd_e rfl, upd_e rfl, upd_e rfl, upd_n (show 83 + 3 * i ≠ 84 + 3 * i by omega), upd_n (show 83 + 3 * i ≠ 85 + 3 * i by omega), upd_e rfl, upd_e rfl, upd_n (show 85 + 3 * i ≠ 84 + 3 * i by omega), upd_e rfl]
      exact ⟨rfl, ⟨rfl, hA⟩, rfl, h1, h2⟩
    · have := c7 i hi
      rw [upd_n hik, upd_n hik, upd_n hik, upd_n (show 83 + 3 * i ≠ 84 + 3 * k by omega), upd_n (show 83 + 3 * i ≠ 85 + 3 * k by omega), upd_n (show 83 + 3 * i ≠ 83 + 3 * k by omega), upd_n (show 84 + 3 * i ≠ 84 + 3 * k by omega), upd_n (show 84 + 3 * i ≠ 85 + 3 * k by omega), upd_n (show 84 + 3 * i ≠ 83 + 3 * k by omega), upd_n (show 85 + 3 * i ≠ 84 + 3 * k by omega), upd_n (show 85 + 3 * i ≠ 85 + 3 * k by omega), upd_n (show 85 + 3 * i ≠ 83 + 3 * k by omega)]
      exact this
  · obtain ⟨h1, h2, h3⟩ := hs
    refine ⟨h1, h2, fun N hN M hM hT => h3 N hN M hM (fun k hk => (hT k hk).trans (e _ (by omega)))⟩
theorem RelSt.left {T : Nat} {R : Ru} {V : St} {z : Fn} (h : RelSt T R V z) (a b : Int32) : RelSt T R (V.1, V.2.1, V.2.2.1, V.2.2.2.1, V.2.2.2.2.1, V.2.2.2.2.2.1, V.2.2.2.2.2.2.1, V.2.2.2.2.2.2.2.1, V.2.2.2.2.2.2.2.2.1, V.2.2.2.2.2.2.2.2.2.1, V.2.2.2.2.2.2.2.2.2.2.1, V.2.2.2.2.2.2.2.2.2.2.2.1, a, b, V.2.2.2.2.2.2.2.2.2.2.2.2.2.2.1, V.2.2.2.2.2.2.2.2.2.2.2.2.2.2.2.1, V.2.2.2.2.2.2.2.2.2.2.2.2.2.2.2.2.1, V.2.2.2.2.2.2.2.2.2.2.2.2.2.2.2.2.2) (upd (upd z 17 a) 18 b) := by
  obtain ⟨p', t, s, a1, a2, a3, b1, b2, b3, b4, b5, b6, c1, c2, c3, c4, c5, c6, c7, c8, m, hn, hs⟩ := h
  have e : ∀ x, x ≠ 17 → x ≠ 18 → upd (upd z 17 a) 18 b x = z x := fun x h1 h2 => by rw [upd_n h2, upd_n h1]
  refine ⟨p', t, s, a1, a2, a3, b1, (e 10 (by omega) (by omega)).trans b2, b3, (e 7 (by omega) (by omega)).trans b4, b5, (e 11 (by omega) (by omega)).trans b6, fun j hj => (c1 j hj).trans (e j (by omega) (by omega)).symm, ?_, ?_, ?_, fun j hj => (c5 j hj).trans (e _ (by omega) (by omega)).symm, ?_, ?_, fun j hj => (c8 j hj).trans (e _ (by omega) (by omega)).symm, m, (e 22 (by omega) (by omega)).trans hn, ?_⟩
  · rw [e 0 (by omega) (by omega), e 1 (by omega) (by omega), e 2 (by omega) (by omega), e 3 (by omega) (by omega), e 4 (by omega) (by omega), e 5 (by omega) (by omega), e 6 (by omega) (by omega)]; exact c2
  · rw [e 8 (by omega) (by omega)]; exact c3
  · rw [e 9 (by omega) (by omega), e 8 (by omega) (by omega)]; exact c4
  · rw [e 16 (by omega) (by omega), e 19 (by omega) (by omega), e 20 (by omega) (by omega), e 21 (by omega) (by omega), upd_n (show 17 ≠ 18 by decide), upd_e rfl, upd_e rfl]
    exact ⟨c6.1, rfl, rfl, c6.2.2.2⟩
  · intro i hi
    have := c7 i hi
    rw [e (83 + 3 * i) (by omega) (by omega), e (84 + 3 * i) (by omega) (by omega), e (85 + 3 * i) (by omega) (by omega)]
    exact this
  · obtain ⟨h1, h2, h3⟩ := hs
    refine ⟨h1, h2, fun N hN M hM hT => h3 N hN M hM (fun k hk => (hT k hk).trans (e _ (by omega) (by omega)))⟩
theorem RelSt.less {T : Nat} {R : Ru} {V : St} {z y : Fn} (h : RelSt T R V z) {k p : Nat} {d : Int32} (ep : z 10 = nI p) (hp : p ≤ 20) (hk : k ≤ p) (e10 : y 10 = nI k) (e20 : y 20 = d) (e : ∀ x, x ≠ 10 → x ≠ 20 → (x < 83 + 3 * k ∨ 143 ≤ x) → y x = z x) : RelSt T R (V.1, V.2.1, V.2.2.1, V.2.2.2.1, V.2.2.2.2.1, V.2.2.2.2.2.1, V.2.2.2.2.2.2.1, nI k, V.2.2.2.2.2.2.2.2.1, V.2.2.2.2.2.2.2.2.2.1, V.2.2.2.2.2.2.2.2.2.2.1, V.2.2.2.2.2.2.2.2.2.2.2.1, V.2.2.2.2.2.2.2.2.2.2.2.2.1, V.2.2.2.2.2.2.2.2.2.2.2.2.2.1, V.2.2.2.2.2.2.2.2.2.2.2.2.2.2.1, V.2.2.2.2.2.2.2.2.2.2.2.2.2.2.2.1, d, V.2.2.2.2.2.2.2.2.2.2.2.2.2.2.2.2.2) y := by
  obtain ⟨p', t, s, a1, a2, a3, b1, b2, b3, b4, b5, b6, c1, c2, c3, c4, c5, c6, c7, c8, m, hn, hs⟩ := h
  obtain rfl : p' = p := (nI_eq (by omega) (by omega)).mp (b2.symm.trans ep)
  refine ⟨k, t, s, by omega, a2, a3, rfl, e10, b3, (e 7 (by omega) (by omega) (by omega)).trans b4, b5, (e 11 (by omega) (by omega) (by omega)).trans b6, fun j hj => (c1 j hj).trans (e j (by omega) (by omega) (by omega)).symm, ?_, ?_, ?_, fun j hj => (c5 j hj).trans (e _ (by omega) (by omega) (by omega)).symm, ?_, ?_, fun j hj => (c8 j hj).trans (e _ (by omega) (by omega) (by omega)).symm, m, (e 22 (by omega) (by omega) (by omega)).trans hn, ?_⟩
  · rw [e 0 (by omega) (by omega) (by omega), e 1 (by omega) (by omega) (by omega), e 2 (by omega) (by omega) (by omega), e 3 (by omega) (by omega) (by omega), e 4 (by omega) (by omega) (by omega), e 5 (by omega) (by omega) (by omega), e 6 (by omega) (by omega) (by omega)]; exact c2
  · rw [e 8 (by omega) (by omega) (by omega)]; exact c3
  · rw [e 9 (by omega) (by omega) (by omega), e 8 (by omega) (by omega) (by omega)]; exact c4
  · rw [e 16 (by omega) (by omega) (by omega), e 17 (by omega) (by omega) (by omega), e 18 (by omega) (by omega) (by omega), e 19 (by omega) (by omega) (by omega), e20, e 21 (by omega) (by omega) (by omega)]
    exact ⟨c6.1, c6.2.1, c6.2.2.1, c6.2.2.2.1, rfl, c6.2.2.2.2.2⟩
  · intro i hi
    have := c7 i (by omega)
    rw [e (83 + 3 * i) (by omega) (by omega) (by omega), e (84 + 3 * i) (by omega) (by omega) (by omega), e (85 + 3 * i) (by omega) (by omega) (by omega)]
    exact this
  · obtain ⟨h1, h2, h3⟩ := hs
    refine ⟨h1, h2, fun N hN M hM hT => h3 N hN M hM (fun k hk => (hT k hk).trans (e _ (by omega) (by omega) (by omega)))⟩
theorem q_clear {N : Nat} (hN : 5000 ≤ N) (V0 Q : Md) (z : Fn) {k p : Nat} (hk : k ≤ p) (hp : p ≤ 20) (ep : z 10 = nI p) : ∃ y : Fn, lp (b_X6_carry_137 N V0) N ((z, Q.2), nI k, nI (83 + 3 * k)) = some (upd y 10 (nI k), Q.2) ∧ ∀ x, x < 83 + 3 * k ∨ 143 ≤ x → y x = z x := by
  obtain ⟨o, h1, y, rfl, h2⟩ := lp_m (body := b_X6_carry_137 N V0) (P := fun n s => n ≤ 3 * (p - k) ∧ ∃ y : Fn, s = ((y, Q.2), nI k, nI (83 + 3 * p - n)) ∧ ∀ x, x < 83 + 3 * k ∨ 143 ≤ x → y x = z x) (Q := fun o => ∃ y : Fn, o = (upd y 10 (nI k), Q.2) ∧ ∀ x, x < 83 + 3 * k ∨ 143 ≤ x → y x = z x) (by
    rintro n s ⟨hn, y, rfl, hy⟩
    have ey : y 10 = nI p := (hy 10 (by omega)).trans ep
    have hq : (83 : Int32) + 3 * nI p = nI (83 + 3 * p) := by rw [show (3 : Int32) = nI 3 from rfl, pk_mul, show (83 : Int32) = nI 83 from rfl, nI_add]
    by_cases n0 : n = 0
    · subst n0
      refine .inl ⟨_, fun K => ?_, y, rfl, hy⟩
      rw [cb7, c_10, ey, hq, if_pos (nI_le (show 83 + 3 * p ≤ 83 + 3 * p - 0 by omega) (by omega))]
    · refine .inr ⟨n - 1, ((upd y (83 + 3 * p - n) 0, Q.2), nI k, nI (83 + 3 * p - (n - 1))), by omega, ⟨by omega, _, rfl, fun x hx => ?_⟩, fun K => ?_⟩
      · rw [upd_n (by omega)]; exact hy x hx
      · rw [cb7, c_10, ey, hq, if_neg (nI_ge (show 83 + 3 * p - n < 83 + 3 * p by omega) (by omega)), ix_nI (show 83 + 3 * p - n < 173 by omega) (by decide), cl _ (show 83 + 3 * p - n < 2 ^ 31 by omega), nI_1, show 83 + 3 * p - n + 1 = 83 + 3 * p - (n - 1) from by omega]) N (3 * (p - k)) ((z, Q.2), nI k, nI (83 + 3 * k)) (by omega) ⟨Nat.le_refl _, z, by rw [show 83 + 3 * p - 3 * (p - k) = 83 + 3 * k from by omega], fun x hx => rfl⟩
  exact ⟨y, h1, h2⟩
theorem q_place {Q : Md} {i : Nat} (hi : i < 20) : f_X6_placeOf Q (nI i) = some (Q.1 (84 + 3 * i)) := by
  unfold f_X6_placeOf
  rw [show (83 : Int32) + 3 * nI i + 1 = nI (84 + 3 * i) from by rw [show (3 : Int32) = nI 3 from rfl, pk_mul, show (83 : Int32) = nI 83 from rfl, nI_add, nI_1, show 83 + 3 * i + 1 = 84 + 3 * i from by omega], ix_nI (show 84 + 3 * i < 173 by omega) (by decide), cl _ (show 84 + 3 * i < 2 ^ 31 by omega)]
theorem q_weight {Q : Md} {i : Nat} (hi : i < 20) : f_X6_weight Q (nI i) = some (Q.1 (83 + 3 * i)) := by
  unfold f_X6_weight
  rw [show (83 : Int32) + 3 * nI i = nI (83 + 3 * i) from by rw [show (3 : Int32) = nI 3 from rfl, pk_mul, show (83 : Int32) = nI 83 from rfl, nI_add], ix_nI (show 83 + 3 * i < 173 by omega) (by decide), cl _ (show 83 + 3 * i < 2 ^ 31 by omega)]
theorem r_carry {T : Nat} {R : Ru} {V : St} {M : Md} {N : Nat} (hN : 5000 ≤ N) (h : RelSt T R V M.1) : ∃ (V' : St) (y : Fn), f_X4_carryPeople N V = some V' ∧ f_X6_carry N M = some (y, M.2) ∧ RelSt T R V' (upd y 20 (y 20 + y 8)) ∧ V'.2.2.2.2.2.2.1 = V.2.2.2.2.2.2.1 ∧ y 8 = M.1 8 ∧ y 9 = M.1 9 ∧ y 11 = M.1 11 ∧ (M.1 8 = 0 → y 10 = M.1 10) := by
  obtain ⟨p, hp, ep1, ep2⟩ := ppl h
  have hq : ∀ j : Nat, (83 : Int32) + 3 * nI j = nI (83 + 3 * j) := fun j => by rw [show (3 : Int32) = nI 3 from rfl, pk_mul, show (83 : Int32) = nI 83 from rfl, nI_add]
  have hq1 : ∀ j : Nat, nI (83 + 3 * j) + (1 : Int32) = nI (84 + 3 * j) := fun j => by rw [nI_1, show 83 + 3 * j + 1 = 84 + 3 * j from by omega]
  have hq2 : ∀ j : Nat, nI (83 + 3 * j) + (2 : Int32) = nI (85 + 3 * j) := fun j => by rw [show (2 : Int32) = nI 2 from rfl, nI_add, show 83 + 3 * j + 2 = 85 + 3 * j from by omega]
  obtain ⟨o1, o2, g1, g2, y, rfl, g3, g4, g5, g6, g7, g8⟩ := lp_2 (b1 := b_X4_carryPeople_4 N V) (b2 := b_X6_carry_4 N M)
    (P := fun n s1 s2 => n ≤ p ∧ ∃ (V1 : St) (z : Fn) (k : Nat), s1 = (V1, nI k, nI (p - n)) ∧ s2 = ((z, M.2), nI k, nI (p - n)) ∧ k ≤ p - n ∧ RelSt T R V1 z ∧ z 10 = nI p ∧ z 8 = M.1 8 ∧ z 9 = M.1 9 ∧ z 11 = M.1 11 ∧ (M.1 8 = 0 → k = p - n) ∧ V1.2.2.2.2.2.2.1 = V.2.2.2.2.2.2.1)
    (Q := fun o1 o2 => ∃ y : Fn, o2 = (y, M.2) ∧ RelSt T R o1 (upd y 20 (y 20 + y 8)) ∧ o1.2.2.2.2.2.2.1 = V.2.2.2.2.2.2.1 ∧ y 8 = M.1 8 ∧ y 9 = M.1 9 ∧ y 11 = M.1 11 ∧ (M.1 8 = 0 → y 10 = M.1 10)) (by
    rintro n s1 s2 ⟨hn, V1, z, k, rfl, rfl, hk, hr, ez, e8, e9, e11, ek, er⟩
    have hr' := hr
    obtain ⟨p', t, s, a1, a2, a3, b1, b2, b3, b4, b5, b6, c1, c2, c3, c4, c5, c6, c7, c8⟩ := hr'
    obtain rfl : p' = p := (nI_eq (by omega) (by omega)).mp (b2.symm.trans ez)
    by_cases n0 : n = 0
    · subst n0
      obtain ⟨y, y1, y2⟩ := q_clear hN M M z (k := k) (p := p') (by omega) hp ez
      refine .inl ⟨(V1.1, V1.2.1, V1.2.2.1, V1.2.2.2.1, V1.2.2.2.2.1, V1.2.2.2.2.2.1, V1.2.2.2.2.2.2.1, nI k, V1.2.2.2.2.2.2.2.2.1, V1.2.2.2.2.2.2.2.2.2.1, V1.2.2.2.2.2.2.2.2.2.2.1, V1.2.2.2.2.2.2.2.2.2.2.2.1, V1.2.2.2.2.2.2.2.2.2.2.2.2.1, V1.2.2.2.2.2.2.2.2.2.2.2.2.2.1, V1.2.2.2.2.2.2.2.2.2.2.2.2.2.2.1, V1.2.2.2.2.2.2.2.2.2.2.2.2.2.2.2.1, (V1.2.2.2.2.2.2.2.2.2.2.2.2.2.2.2.2.1 + V1.2.2.2.2.2.2.2.2.2.2.2.1), V1.2.2.2.2.2.2.2.2.2.2.2.2.2.2.2.2.2), (upd y 10 (nI k), M.2), fun K => ?_, fun K => ?_, upd y 10 (nI k), rfl, ?_⟩
      · rw [cb4, b1, if_pos (nI_le (show p' ≤ p' - 0 by omega) (by omega))]; rfl
      · rw [cb6, c_10, ez, if_pos (nI_le (show p' ≤ p' - 0 by omega) (by omega)), hq]; exact y1
      · have w20 : upd y 10 (nI k) 20 = z 20 := (upd_n (by decide)).trans (y2 20 (by omega))
        have w8 : upd y 10 (nI k) 8 = z 8 := (upd_n (by decide)).trans (y2 8 (by omega))
        refine ⟨RelSt.less hr ez hp (show k ≤ p' by omega) ?_ ?_ ?_, er, w8.trans e8, ((upd_n (by decide)).trans (y2 9 (by omega))).trans e9, ((upd_n (by decide)).trans (y2 11 (by omega))).trans e11, fun q0 => (upd_e rfl).trans ((congrArg nI (ek q0)).trans ep2.symm)⟩
        · rw [upd_n (by decide), upd_e rfl]
        · rw [upd_e rfl, w20, w8, c6.2.2.2.2.1, c3.1]
        · intro x h1 h2 h3
          rw [upd_n h2, upd_n h1, y2 x h3]
    · have hi : p' - n < p' := by omega
      obtain ⟨v1, v2, v3, v4, v5⟩ := c7 (p' - n) hi
      have en : nI (p' - n) + (1 : Int32) = nI (p' - (n - 1)) := by rw [nI_1, show p' - n + 1 = p' - (n - 1) from by omega]
      by_cases g : z (84 + 3 * (p' - n)) + z 8 < 1000
      · refine .inr ⟨n - 1, _, _, by omega, ⟨by omega, _, _, k + 1, rfl, rfl, by omega, RelSt.row hr (k := k) (A := z (84 + 3 * (p' - n)) + z 8) (W := z (83 + 3 * (p' - n))) (S := z (85 + 3 * (p' - n))) ez hp (by omega) v4 v5 (z_lt.mp g), ?_, ?_, ?_, ?_, fun q0 => by rw [ek q0]; omega, er⟩, fun K => ?_, fun K => ?_⟩
        · rw [upd_n (by omega), upd_n (by omega), upd_n (by omega)]; exact ez
        · rw [upd_n (by omega), upd_n (by omega), upd_n (by omega)]; exact e8
        · rw [upd_n (by omega), upd_n (by omega), upd_n (by omega)]; exact e9
        · rw [upd_n (by omega), upd_n (by omega), upd_n (by omega)]; exact e11
        · rw [cb4, b1, if_neg (nI_ge hi (by omega)), if_neg (show ¬ (20 : Int32) ≤ nI (p' - n) from nI_ge (show p' - n < 20 by omega) (by decide)), ix_nI (show p' - n < 20 by omega) (by decide), cl (p' - n) (by omega), v2.1, c3.1, if_pos g, ix_nI (show k < 20 by omega) (by decide), ix_nI (show p' - n < 20 by omega) (by decide), ix_nI (show k < 20 by omega) (by decide), ix_nI (show p' - n < 20 by omega) (by decide), ix_nI (show k < 20 by omega) (by decide), cl k (by omega), v1, v3]
          unfold b_X4_carryPeople_99
          dsimp only
          rw [en, nI_1]
        · rw [cb6, c_10, ez, if_neg (nI_ge hi (by omega)), q_place (show p' - n < 20 by omega), Option.bind_some, c_8, if_pos g, q_weight (show p' - n < 20 by omega), Option.bind_some, hq k, hq (p' - n), hq1 k, hq2 k, hq2 (p' - n), ix_nI (show 83 + 3 * k < 173 by omega) (by decide), ix_nI (show 85 + 3 * (p' - n) < 173 by omega) (by decide), ix_nI (show 85 + 3 * k < 173 by omega) (by decide), ix_nI (show 84 + 3 * k < 173 by omega) (by decide), cl _ (show 83 + 3 * k < 2 ^ 31 by omega), cl _ (show 84 + 3 * k < 2 ^ 31 by omega), cl _ (show 85 + 3 * k < 2 ^ 31 by omega), cl _ (show 85 + 3 * (p' - n) < 2 ^ 31 by omega), upd_n (show 85 + 3 * (p' - n) ≠ 83 + 3 * k by omega)]
          unfold b_X6_carry_124
          dsimp only
          rw [en, nI_1]
      · refine .inr ⟨n - 1, _, _, by omega, ⟨by omega, _, _, k, rfl, rfl, by omega, RelSt.left hr (z 17 + 1) (z 18 + z (83 + 3 * (p' - n))), ?_, ?_, ?_, ?_, fun q0 => absurd (show z (84 + 3 * (p' - n)) + z 8 < 1000 by rw [e8, q0, Int32.add_zero, z_lt]; exact v2.2) g, er⟩, fun K => ?_, fun K => ?_⟩
        · rw [upd_n (by omega), upd_n (by omega)]; exact ez
        · rw [upd_n (by omega), upd_n (by omega)]; exact e8
        · rw [upd_n (by omega), upd_n (by omega)]; exact e9
        · rw [upd_n (by omega), upd_n (by omega)]; exact e11
        · rw [cb4, b1, if_neg (nI_ge hi (by omega)), if_neg (show ¬ (20 : Int32) ≤ nI (p' - n) from nI_ge (show p' - n < 20 by omega) (by decide)), ix_nI (show p' - n < 20 by omega) (by decide), cl (p' - n) (by omega), v2.1, c3.1, if_neg g, ix_nI (show p' - n < 20 by omega) (by decide), v1, c6.2.1, c6.2.2.1]
          unfold b_X4_carryPeople_99
          dsimp only
          rw [en]
        · rw [cb6, c_10, ez, if_neg (nI_ge hi (by omega)), q_place (show p' - n < 20 by omega), Option.bind_some, c_8, if_neg g, q_weight (show p' - n < 20 by omega), Option.bind_some, c_17, c_18]
          unfold b_X6_carry_124
          dsimp only
          rw [en, upd_n (show 18 ≠ 17 by decide), upd_n (show 83 + 3 * (p' - n) ≠ 17 by omega)])
    p N N (V, (0 : Int32), (0 : Int32)) (M, (0 : Int32), (0 : Int32)) (by omega) (by omega) ⟨Nat.le_refl _, V, M.1, 0, by rw [Nat.sub_self]; rfl, by rw [Nat.sub_self]; rfl, Nat.zero_le _, h, ep2, rfl, rfl, rfl, fun _ => (Nat.sub_self p).symm, rfl⟩
  exact ⟨o1, y, g1, g2, g3, g4, g5, g6, g7, g8⟩
