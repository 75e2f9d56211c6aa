/-! one tick: its end, and the whole tick -/
def tail4 (N : Nat) (V : St) (p0 : Int32) (o10 : St) : Option St := (if o10.2.2.2.2.2.2.2.2.2.1 = (1 : Int32) then (if o10.2.2.2.2.2.2.2.2.2.2.2.1 = 0 then b_X4_passTick_59 N V p0 (o10.1, o10.2.1, o10.2.2.1, o10.2.2.2.1, o10.2.2.2.2.1, o10.2.2.2.2.2.1, o10.2.2.2.2.2.2.1, o10.2.2.2.2.2.2.2.1, o10.2.2.2.2.2.2.2.2.1, (2 : Int32), o10.2.2.2.2.2.2.2.2.2.2.1, o10.2.2.2.2.2.2.2.2.2.2.2.1, o10.2.2.2.2.2.2.2.2.2.2.2.2.1, o10.2.2.2.2.2.2.2.2.2.2.2.2.2.1, o10.2.2.2.2.2.2.2.2.2.2.2.2.2.2.1, o10.2.2.2.2.2.2.2.2.2.2.2.2.2.2.2.1, o10.2.2.2.2.2.2.2.2.2.2.2.2.2.2.2.2.1, o10.2.2.2.2.2.2.2.2.2.2.2.2.2.2.2.2.2) else b_X4_passTick_59 N V p0 o10) else b_X4_passTick_59 N V p0 o10)
theorem p16 {N : Nat} {V : St} {p0 : Int32} {s : St} : b_X4_passTick_16 N V p0 s = ((f_X4_countDisagreements N s).bind fun o2 => ((f_X4_totalWeight N o2).bind fun o4 => ((f_X4_wantedSpeed N o2 o4).bind fun o6 => ((f_X4_changeSpeed o2 o6 o4).bind fun o8 => ((f_X4_carryPeople N o8).bind fun o10 => tail4 N V p0 o10))))) := rfl
theorem RelSt.mode2 {T : Nat} {R : Ru} {V : St} {z : Fn} (h : RelSt T R V z) (h8 : z 8 = 0) : RelSt T R (V.1, V.2.1, V.2.2.1, V.2.2.2.1, V.2.2.2.2.1, V.2.2.2.2.2.1, V.2.2.2.2.2.2.1, V.2.2.2.2.2.2.2.1, V.2.2.2.2.2.2.2.2.1, (2 : Int32), V.2.2.2.2.2.2.2.2.2.2.1, V.2.2.2.2.2.2.2.2.2.2.2.1, V.2.2.2.2.2.2.2.2.2.2.2.2.1, V.2.2.2.2.2.2.2.2.2.2.2.2.2.1, V.2.2.2.2.2.2.2.2.2.2.2.2.2.2.1, V.2.2.2.2.2.2.2.2.2.2.2.2.2.2.2.1, V.2.2.2.2.2.2.2.2.2.2.2.2.2.2.2.2.1, V.2.2.2.2.2.2.2.2.2.2.2.2.2.2.2.2.2) (upd z 9 2) := by
  obtain ⟨p, t, s, a1, a2, a3, b1, b2, b3, b4, b5, b6, c1, c2, c3, c4, c5, c6, c7, c8, n, hn, hs⟩ := h
  have e : ∀ k, k ≠ 9 → upd z 9 2 k = z k := fun k hk => upd_n hk
  refine ⟨p, t, s, a1, a2, a3, b1, (e 10 (by omega)).trans b2, b3, (e 7 (by omega)).trans b4, b5, (e 11 (by omega)).trans b6, fun j hj => (c1 j hj).trans (e j (by omega)).symm, ?_, ?_, ⟨(upd_e rfl).symm, .inr (.inr (upd_e rfl)), fun _ => (e 8 (by omega)).trans h8⟩, fun j hj => (c5 j hj).trans (e _ (by omega)).symm, ?_, ?_, fun j hj => (c8 j hj).trans (e _ (by omega)).symm, n, (e 22 (by omega)).trans hn, ?_⟩
  · rw [e 0 (by omega), e 1 (by omega), e 2 (by omega), e 3 (by omega), e 4 (by omega), e 5 (by omega), e 6 (by omega)]; exact c2
  · rw [e 8 (by omega)]; exact c3
  · rw [e 16 (by omega), e 17 (by omega), e 18 (by omega), e 19 (by omega), e 20 (by omega), e 21 (by omega)]; exact c6
  · intro i hi
    have := c7 i hi
    rw [e (83 + 3 * i) (by omega), e (84 + 3 * i) (by omega), e (85 + 3 * i) (by omega)]
    exact this
  · obtain ⟨h1, h2, h3⟩ := hs
    refine ⟨h1, h2, fun N hN M hM hT => h3 N hN M hM (fun k hk => (hT k hk).trans (e _ (by omega)))⟩
theorem RelSt.fin {T : Nat} {R : Ru} {V : St} {z : Fn} (h : RelSt T R V z) (d : Int32) : RelSt (T + 1) R (V.1, V.2.1, V.2.2.1, V.2.2.2.1, V.2.2.2.2.1, V.2.2.2.2.2.1, V.2.2.2.2.2.2.1, V.2.2.2.2.2.2.2.1, V.2.2.2.2.2.2.2.2.1, V.2.2.2.2.2.2.2.2.2.1, (V.2.2.2.2.2.2.2.2.2.2.1 + 1), V.2.2.2.2.2.2.2.2.2.2.2.1, V.2.2.2.2.2.2.2.2.2.2.2.2.1, V.2.2.2.2.2.2.2.2.2.2.2.2.2.1, V.2.2.2.2.2.2.2.2.2.2.2.2.2.2.1, d, V.2.2.2.2.2.2.2.2.2.2.2.2.2.2.2.2.1, V.2.2.2.2.2.2.2.2.2.2.2.2.2.2.2.2.2) (upd (upd z 16 d) 7 (z 7 + 1)) := by
  obtain ⟨p, t, s, a1, a2, a3, b1, b2, b3, b4, b5, b6, c1, c2, c3, c4, c5, c6, c7, c8, n, hn, hs⟩ := h
  have e : ∀ k, k ≠ 7 → k ≠ 16 → upd (upd z 16 d) 7 (z 7 + 1) k = z k := fun k h1 h2 => by rw [upd_n h1, upd_n h2]
  refine ⟨p, t + 1, s, a1, by omega, a3, b1, (e 10 (by omega) (by omega)).trans b2, ?_, ?_, b5, (e 11 (by omega) (by omega)).trans b6, fun j hj => ?_, ?_, ?_, ?_, fun j hj => (c5 j hj).trans (e _ (by omega) (by omega)).symm, ?_, ?_, fun j hj => (c8 j hj).trans (e _ (by omega) (by omega)).symm, n, (e 22 (by omega) (by omega)).trans hn, ?_⟩
  · show V.2.2.2.2.2.2.2.2.2.2.1 + 1 = _
    rw [b3, nI_1]
  · rw [upd_e rfl, b4, nI_1]
  · rw [e j (by omega) (by omega)]; exact c1 j hj
  · rw [e 0 (by omega) (by omega), e 1 (by omega) (by omega), e 2 (by omega) (by omega), e 3 (by omega) (by omega), e 4 (by omega) (by omega), e 5 (by omega) (by omega), e 6 (by omega) (by omega)]; exact c2
  · rw [e 8 (by omega) (by omega)]; exact c3
  · rw [e 9 (by omega) (by omega), e 8 (by omega) (by omega)]; exact c4
  · rw [e 17 (by omega) (by omega), e 18 (by omega) (by omega), e 19 (by omega) (by omega), e 20 (by omega) (by omega), e 21 (by omega) (by omega), upd_n (show 16 ≠ 7 by decide), upd_e rfl]
    exact ⟨rfl, c6.2⟩
  · intro i hi
    have := c7 i hi
    rw [e (83 + 3 * i) (by omega) (by omega), e (84 + 3 * i) (by omega) (by omega), e (85 + 3 * i) (by omega) (by omega)]
    exact this
  · obtain ⟨h1, h2, h3⟩ := hs
    refine ⟨h1, h2, fun N hN M hM hT => h3 N hN M hM (fun k hk => (hT k hk).trans (e _ (by omega) (by omega)))⟩
theorem r_idle {T : Nat} {R : Ru} {V V0 : St} {z : Fn} {Q M0 : Md} {N : Nat} {p0 : Int32} (h : RelSt T R V z) : ∃ (V' : St) (z' : Fn), b_X4_passTick_59 N V0 p0 V = some V' ∧ b_X6_goTick_237 N M0 (z, Q.2) = some (z', Q.2) ∧ RelSt (T + 1) R V' z' ∧ V'.2.2.2.2.2.2.1 = V.2.2.2.2.2.2.1 ∧ z' 8 = z 8 ∧ z' 9 = z 9 ∧ z' 11 = z 11 ∧ z' 10 = z 10 := by
  obtain ⟨p, hp, e1, e2⟩ := ppl h
  have h' := h
  obtain ⟨p', t, s, a1, a2, a3, b1, b2, b3, b4, b5, b6, c1, c2, c3, c4, c5, c6, c7, c8⟩ := h'
  have fin : ∀ d, b_X6_goTick_266 N M0 ((z, Q.2), (16 : Int32), d) = some (upd (upd z 16 d) 7 (z 7 + 1), Q.2) := by
    intro d
    show ix (16 : Int32) 173 (some ((upd (upd z (Int32.toNatClampNeg (16 : Int32)) d) (Int32.toNatClampNeg (7 : Int32)) (((upd z (Int32.toNatClampNeg (16 : Int32)) d) (Int32.toNatClampNeg (7 : Int32))) + (1 : Int32))), Q.2)) = _
    rw [ix_of (show (16 : Int32) = nI 16 from rfl) (by decide) (by decide), c_16, c_7, upd_n (show 7 ≠ 16 by decide)]
  have out : ∀ d, RelSt (T + 1) R (V.1, V.2.1, V.2.2.1, V.2.2.2.1, V.2.2.2.2.1, V.2.2.2.2.2.1, V.2.2.2.2.2.2.1, V.2.2.2.2.2.2.2.1, V.2.2.2.2.2.2.2.2.1, V.2.2.2.2.2.2.2.2.2.1, (V.2.2.2.2.2.2.2.2.2.2.1 + 1), V.2.2.2.2.2.2.2.2.2.2.2.1, V.2.2.2.2.2.2.2.2.2.2.2.2.1, V.2.2.2.2.2.2.2.2.2.2.2.2.2.1, V.2.2.2.2.2.2.2.2.2.2.2.2.2.2.1, d, V.2.2.2.2.2.2.2.2.2.2.2.2.2.2.2.2.1, V.2.2.2.2.2.2.2.2.2.2.2.2.2.2.2.2.2) (upd (upd z 16 d) 7 (z 7 + 1)) ∧ upd (upd z 16 d) 7 (z 7 + 1) 8 = z 8 ∧ upd (upd z 16 d) 7 (z 7 + 1) 9 = z 9 ∧ upd (upd z 16 d) 7 (z 7 + 1) 11 = z 11 ∧ upd (upd z 16 d) 7 (z 7 + 1) 10 = z 10 := fun d =>
    ⟨RelSt.fin h d, by rw [upd_n (by decide), upd_n (by decide)], by rw [upd_n (by decide), upd_n (by decide)], by rw [upd_n (by decide), upd_n (by decide)], by rw [upd_n (by decide), upd_n (by decide)]⟩
  by_cases p0' : p = 0
  · subst p0'
    obtain ⟨o1, o2⟩ := out (z 16 + 1)
    refine ⟨_, _, ?_, ?_, o1, rfl, o2⟩
    · unfold b_X4_passTick_59
      rw [if_pos (show V.2.2.2.2.2.2.2.1 = 0 from e1), ← c6.1]; rfl
    · unfold b_X6_goTick_237
      rw [if_pos (show (z, Q.2).1 (Int32.toNatClampNeg (10 : Int32)) = 0 from e2)]
      exact fin _
  · obtain ⟨o1, o2⟩ := out 0
    have hne : ¬ nI p = 0 := nI_ne0 (by omega) (by omega)
    refine ⟨_, _, ?_, ?_, o1, rfl, o2⟩
    · unfold b_X4_passTick_59
      rw [if_neg (show ¬ V.2.2.2.2.2.2.2.1 = 0 from fun g => hne (e1.symm.trans g))]; rfl
    · unfold b_X6_goTick_237
      rw [if_neg (show ¬ (z, Q.2).1 (Int32.toNatClampNeg (10 : Int32)) = 0 from fun g => hne (e2.symm.trans g))]
      exact fin _
theorem r_end {T : Nat} {R : Ru} {V V0 : St} {y : Fn} {Q M0 : Md} {N : Nat} {p0 : Int32} (h : RelSt T R V (upd y 20 (y 20 + y 8))) : ∃ (V' : St) (z' : Fn), tail4 N V0 p0 V = some V' ∧ tail6 N M0 (y, Q.2) = some (z', Q.2) ∧ RelSt (T + 1) R V' z' ∧ V'.2.2.2.2.2.2.1 = V.2.2.2.2.2.2.1 ∧ z' 8 = y 8 ∧ z' 9 = (if y 9 = 1 ∧ y 8 = 0 then 2 else y 9) ∧ z' 11 = y 11 ∧ z' 10 = y 10 := by
  have u : ∀ k, k ≠ 20 → upd y 20 (y 20 + y 8) k = y k := fun k hk => upd_n hk
  have h' := h
  obtain ⟨p', t, s, a1, a2, a3, b1, b2, b3, b4, b5, b6, c1, c2, c3, c4, c5, c6, c7, c8⟩ := h'
  have m9 : V.2.2.2.2.2.2.2.2.2.1 = y 9 := c4.1.trans (u 9 (by decide))
  have m8 : V.2.2.2.2.2.2.2.2.2.2.2.1 = y 8 := c3.1.trans (u 8 (by decide))
  unfold tail4 tail6
  by_cases g9 : y 9 = 1
  · rw [if_pos (show V.2.2.2.2.2.2.2.2.2.1 = 1 from m9.trans g9), if_pos (show upd y (Int32.toNatClampNeg (20 : Int32)) (y (Int32.toNatClampNeg (20 : Int32)) + y (Int32.toNatClampNeg (8 : Int32))) (Int32.toNatClampNeg (9 : Int32)) = 1 from (u 9 (by decide)).trans g9)]
    by_cases g8 : y 8 = 0
    · rw [if_pos (show V.2.2.2.2.2.2.2.2.2.2.2.1 = 0 from m8.trans g8), if_pos (show upd y (Int32.toNatClampNeg (20 : Int32)) (y (Int32.toNatClampNeg (20 : Int32)) + y (Int32.toNatClampNeg (8 : Int32))) (Int32.toNatClampNeg (8 : Int32)) = 0 from (u 8 (by decide)).trans g8), if_pos ⟨g9, g8⟩]
      obtain ⟨V', z', q1, q2, q3, q4, q5, q6, q7, q8⟩ := r_idle (V0 := V0) (M0 := M0) (Q := Q) (N := N) (p0 := p0) (RelSt.mode2 h ((u 8 (by decide)).trans g8))
      exact ⟨V', z', q1, q2, q3, q4, q5.trans ((upd_n (by decide)).trans (u 8 (by decide))), q6.trans (upd_e rfl), q7.trans ((upd_n (by decide)).trans (u 11 (by decide))), q8.trans ((upd_n (by decide)).trans (u 10 (by decide)))⟩
    · rw [if_neg (show ¬ V.2.2.2.2.2.2.2.2.2.2.2.1 = 0 from fun g => g8 (m8.symm.trans g)), if_neg (show ¬ upd y (Int32.toNatClampNeg (20 : Int32)) (y (Int32.toNatClampNeg (20 : Int32)) + y (Int32.toNatClampNeg (8 : Int32))) (Int32.toNatClampNeg (8 : Int32)) = 0 from fun g => g8 ((u 8 (by decide)).symm.trans g)), if_neg (fun g => g8 g.2)]
      obtain ⟨V', z', q1, q2, q3, q4, q5, q6, q7, q8⟩ := r_idle (V0 := V0) (M0 := M0) (Q := Q) (N := N) (p0 := p0) h
      exact ⟨V', z', q1, q2, q3, q4, q5.trans (u 8 (by decide)), q6.trans (u 9 (by decide)), q7.trans (u 11 (by decide)), q8.trans (u 10 (by decide))⟩
  · rw [if_neg (show ¬ V.2.2.2.2.2.2.2.2.2.1 = 1 from fun g => g9 (m9.symm.trans g)), if_neg (show ¬ upd y (Int32.toNatClampNeg (20 : Int32)) (y (Int32.toNatClampNeg (20 : Int32)) + y (Int32.toNatClampNeg (8 : Int32))) (Int32.toNatClampNeg (9 : Int32)) = 1 from fun g => g9 ((u 9 (by decide)).symm.trans g)), if_neg (fun g => g9 g.1)]
    obtain ⟨V', z', q1, q2, q3, q4, q5, q6, q7, q8⟩ := r_idle (V0 := V0) (M0 := M0) (Q := Q) (N := N) (p0 := p0) h
    exact ⟨V', z', q1, q2, q3, q4, q5.trans (u 8 (by decide)), q6.trans (u 9 (by decide)), q7.trans (u 11 (by decide)), q8.trans (u 10 (by decide))⟩
/-- a tick from the counting of the disagreements on -/
theorem r_go {T : Nat} {R : Ru} {V V0 : St} {M M0 : Md} {N : Nat} {p0 : Int32} (hN : 5000 ≤ N) (h : RelSt T R V M.1) : ∃ (V' : St) (z' : Fn), b_X4_passTick_16 N V0 p0 V = some V' ∧ b_X6_goTick_22 N M0 M = some (z', M.2) ∧ RelSt (T + 1) R V' z' ∧ V'.2.2.2.2.2.2.1 = V.2.2.2.2.2.2.1 ∧ z' 11 = M.1 11 ∧
    (M.1 9 = 0 → z' 9 = 0) ∧ (M.1 9 = 2 → z' 9 = 2 ∧ z' 10 = M.1 10) ∧ (M.1 9 = 1 → (z' 9 = 1 ∨ z' 9 = 2) ∧ (M.1 8 = 0 → z' 9 = 2) ∧ (0 < (M.1 8).toInt → (z' 8).toInt < (M.1 8).toInt)) := by
  obtain ⟨s, hs6, es1, es2⟩ := sns h
  have h1 := r_dis h es2 hs6
  obtain ⟨w, hw, l1, l2⟩ := load_rel (M := (drf M.1 s 4, M.2)) hN h1
  obtain ⟨x, V2, z2, s1, s2, s3, s4, s5, s11, s10, s6, s7⟩ := r_speed (M := (drf M.1 s 4, M.2)) hN h1 hw l2
  obtain ⟨V3, y, t1, t2, t3, t4, t5, t6, t11, t10⟩ := r_carry (M := (z2, M.2)) hN s3
  obtain ⟨V4, z4, u1, u2, u3, u4, u5, u6, u11, u10⟩ := r_end (V0 := V0) (M0 := M0) (Q := M) (N := N) (p0 := p0) t3
  have e9 : y 9 = M.1 9 := t6.trans (s5.trans (drf_o M.1 s 4 (x := 9) (by omega)))
  have e8 : drf M.1 s 4 8 = M.1 8 := drf_o M.1 s 4 (by omega)
  have ed9 : drf M.1 s 4 9 = M.1 9 := drf_o M.1 s 4 (by omega)
  dsimp only at s6 t5
  rw [e8, ed9] at s6
  refine ⟨V4, z4, ?_, ?_, u3, u4.trans (t4.trans s4), u11.trans (t11.trans (s11.trans (drf_o M.1 s 4 (x := 11) (by omega)))), fun g => ?_, fun g => ?_, fun g => ⟨?_, fun g2 => ?_, fun g2 => ?_⟩⟩
  · rw [p16, q_dis hN V hs6 es1, Option.bind_some, l1, Option.bind_some, s1, Option.bind_some, s2, Option.bind_some, t1, Option.bind_some]
    exact u1
  · rw [q_dis6 hN M0 M hs6 es2, l2, Option.bind_some]
    exact (s7 M0).trans (by rw [t2, Option.bind_some]; exact u2)
  · rw [u6, e9, g, if_neg (fun q => absurd q.1 (by decide))]
  · refine ⟨by rw [u6, e9, g, if_neg (fun q => absurd q.1 (by decide))], ?_⟩
    have z80 : z2 8 = 0 := (s6 (by rw [g]; decide)).1 ((mod h).2.2 g)
    have e210 : z2 10 = M.1 10 := s10.trans (drf_o M.1 s 4 (x := 10) (by omega))
    exact u10.trans ((t10 z80).trans e210)
  · rw [u6, e9, g]
    by_cases q : y 8 = 0
    · rw [if_pos ⟨rfl, q⟩]; exact .inr rfl
    · rw [if_neg (fun k => q k.2)]; exact .inl rfl
  · rw [u6, e9, g, if_pos ⟨rfl, t5.trans ((s6 (by rw [g]; decide)).1 g2)⟩]
  · rw [u5, t5]; exact (s6 (by rw [g]; decide)).2 g2
/-- the whole tick -/
theorem r_tick {T : Nat} {R : Ru} {V : St} {M : Md} {N : Nat} {hv : Int32} (hN : 5000 ≤ N) (h : RelSt T R V M.1) (hh : M.1 9 = 0 → f_X4_ruleHolds N V R = some hv) : ∃ (V' : St) (M' : Md), f_X4_passTick N V hv = some V' ∧ f_X6_goTick N M = some M' ∧ RelSt (T + 1) R V' M'.1 ∧ V'.2.2.2.2.2.2.1 = V.2.2.2.2.2.2.1 ∧ M'.1 11 = M.1 11 ∧ Scr M (M.1, M'.2) ∧
    (M.1 9 = 2 → M'.1 9 = 2 ∧ M'.1 10 = M.1 10) ∧ (M.1 9 = 1 → (M'.1 9 = 1 ∨ M'.1 9 = 2) ∧ (M.1 8 = 0 → M'.1 9 = 2) ∧ (0 < (M.1 8).toInt → (M'.1 8).toInt < (M.1 8).toInt)) := by
  unfold f_X4_passTick f_X6_goTick
  rw [c_9, (mod h).1]
  by_cases h0 : M.1 9 = 0
  · rw [if_pos h0, if_pos h0]
    obtain ⟨hv', M2, w1, w2, w3, w4⟩ := rh hN h
    obtain rfl : hv' = hv := Option.some.inj (w1.symm.trans (hh h0))
    have h2 : RelSt T R V M2.1 := by rw [w3.1]; exact h
    rw [w2, Option.bind_some]
    by_cases hz : hv' = 0
    · rw [if_pos hz, if_pos hz]
      obtain ⟨V', z', q1, q2, q3, q4, q5, q6⟩ := r_go (V0 := V) (M0 := M) (p0 := hv') hN h2
      refine ⟨V', (z', M2.2), q1, q2, q3, q4, q5.trans (congrFun w3.1 11), ⟨rfl, w3.2⟩, fun g => absurd (h0.symm.trans g) (by decide), fun g => absurd (h0.symm.trans g) (by decide)⟩
    · rw [if_neg hz, if_neg hz]
      obtain ⟨V1, z1, k1, k2, k3, k4, k5, k6, k7, k8, k9, k10⟩ := r_halt (M := M2) hN h2 0
      rw [k1, k2, Option.bind_some, Option.bind_some]
      obtain ⟨V', z', q1, q2, q3, q4, q5, q6⟩ := r_go (V0 := V) (M0 := M) (p0 := hv') (M := (z1, M2.2)) hN k3
      refine ⟨V', (z', M2.2), q1, q2, q3, q4.trans k4, q5.trans (k9.trans (congrFun w3.1 11)), ⟨rfl, w3.2⟩, fun g => absurd (h0.symm.trans g) (by decide), fun g => absurd (h0.symm.trans g) (by decide)⟩
  · rw [if_neg h0, if_neg h0]
    obtain ⟨V', z', q1, q2, q3, q4, q5, q6, q7, q8⟩ := r_go (V0 := V) (M0 := M) (p0 := hv) hN h
    exact ⟨V', (z', M.2), q1, q2, q3, q4, q5, Scr.refl M, q7, q8⟩
