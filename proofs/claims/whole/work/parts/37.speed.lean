/-! one tick: the change of speed -/
def tail6 (N : Nat) (V : Md) (o4 : Md) : Option Md := (if ((upd o4.1 (Int32.toNatClampNeg (20 : Int32)) ((o4.1 (Int32.toNatClampNeg (20 : Int32))) + (o4.1 (Int32.toNatClampNeg (8 : Int32))))) (Int32.toNatClampNeg (9 : Int32))) = (1 : Int32) then (if ((upd o4.1 (Int32.toNatClampNeg (20 : Int32)) ((o4.1 (Int32.toNatClampNeg (20 : Int32))) + (o4.1 (Int32.toNatClampNeg (8 : Int32))))) (Int32.toNatClampNeg (8 : Int32))) = 0 then b_X6_goTick_237 N V ((upd (upd o4.1 (Int32.toNatClampNeg (20 : Int32)) ((o4.1 (Int32.toNatClampNeg (20 : Int32))) + (o4.1 (Int32.toNatClampNeg (8 : Int32))))) (Int32.toNatClampNeg (9 : Int32)) (2 : Int32)), o4.2.1, o4.2.2.1, o4.2.2.2.1, o4.2.2.2.2.1, o4.2.2.2.2.2.1, o4.2.2.2.2.2.2.1, o4.2.2.2.2.2.2.2.1, o4.2.2.2.2.2.2.2.2.1, o4.2.2.2.2.2.2.2.2.2.1, o4.2.2.2.2.2.2.2.2.2.2.1, o4.2.2.2.2.2.2.2.2.2.2.2.1, o4.2.2.2.2.2.2.2.2.2.2.2.2.1, o4.2.2.2.2.2.2.2.2.2.2.2.2.2) else b_X6_goTick_237 N V ((upd o4.1 (Int32.toNatClampNeg (20 : Int32)) ((o4.1 (Int32.toNatClampNeg (20 : Int32))) + (o4.1 (Int32.toNatClampNeg (8 : Int32))))), o4.2.1, o4.2.2.1, o4.2.2.2.1, o4.2.2.2.2.1, o4.2.2.2.2.2.1, o4.2.2.2.2.2.2.1, o4.2.2.2.2.2.2.2.1, o4.2.2.2.2.2.2.2.2.1, o4.2.2.2.2.2.2.2.2.2.1, o4.2.2.2.2.2.2.2.2.2.2.1, o4.2.2.2.2.2.2.2.2.2.2.2.1, o4.2.2.2.2.2.2.2.2.2.2.2.2.1, o4.2.2.2.2.2.2.2.2.2.2.2.2.2)) else b_X6_goTick_237 N V ((upd o4.1 (Int32.toNatClampNeg (20 : Int32)) ((o4.1 (Int32.toNatClampNeg (20 : Int32))) + (o4.1 (Int32.toNatClampNeg (8 : Int32))))), o4.2.1, o4.2.2.1, o4.2.2.2.1, o4.2.2.2.2.1, o4.2.2.2.2.2.1, o4.2.2.2.2.2.2.1, o4.2.2.2.2.2.2.2.1, o4.2.2.2.2.2.2.2.2.1, o4.2.2.2.2.2.2.2.2.2.1, o4.2.2.2.2.2.2.2.2.2.2.1, o4.2.2.2.2.2.2.2.2.2.2.2.1, o4.2.2.2.2.2.2.2.2.2.2.2.2.1, o4.2.2.2.2.2.2.2.2.2.2.2.2.2))
theorem neg_toInt {c : Nat} (hc : c < 2 ^ 30) : (-nI c).toInt = -(c : Int) := by
  rw [← Int32.zero_sub, show (0 : Int32) = nI 0 from rfl, pk_sub_toInt (by omega) hc]
  omega
theorem rr_cases {a b c : Nat} (ha : a ≤ 90) (hb : b ≤ 90) (hc : 1 ≤ c ∧ c ≤ 30) : ∃ (r : Int32) (n : Nat), (if (-nI c) < (if (nI a - nI b) < nI c then (nI a - nI b) else nI c) then (if (nI a - nI b) < nI c then (nI a - nI b) else nI c) else (-nI c)) = r ∧ nI b + r = nI n ∧ n ≤ 90 ∧ (a = 0 → b = 0 → n = 0) ∧ (a = 0 → 0 < b → n < b) ∧
    ∀ {α : Type} (f : Int32 → α), (if nI a - nI b ≤ nI c then (if -nI c ≤ nI a - nI b then f (nI a - nI b) else f (-nI c)) else f (nI c)) = f r := by
  have h1 : (nI a - nI b).toInt = (a : Int) - b := pk_sub_toInt (by omega) (by omega)
  have h2 : (-nI c).toInt = -(c : Int) := neg_toInt (by omega)
  have h3 : (nI c).toInt = (c : Int) := z_n (by omega)
  by_cases g1 : a > b + c
  · refine ⟨nI c, b + c, ?_, nI_add b c, by omega, by omega, by omega, fun f => ?_⟩
    · rw [if_neg (show ¬ nI a - nI b < nI c by rw [z_lt, h1, h3]; omega), if_pos (show -nI c < nI c by rw [z_lt, h2, h3]; omega)]
    · rw [if_neg (show ¬ nI a - nI b ≤ nI c by rw [z_le, h1, h3]; omega)]
  · by_cases g2 : b > a + c
    · refine ⟨-nI c, b - c, ?_, ?_, by omega, by omega, by omega, fun f => ?_⟩
      · rw [if_pos (show nI a - nI b < nI c by rw [z_lt, h1, h3]; omega), if_neg (show ¬ -nI c < nI a - nI b by rw [z_lt, h1, h2]; omega)]
      · rw [← Int32.sub_eq_add_neg]; exact pk_sub (by omega)
      · rw [if_pos (show nI a - nI b ≤ nI c by rw [z_le, h1, h3]; omega), if_neg (show ¬ -nI c ≤ nI a - nI b by rw [z_le, h1, h2]; omega)]
    · refine ⟨nI a - nI b, a, ?_, ?_, by omega, by omega, by omega, fun f => ?_⟩
      · by_cases g3 : a = b + c
        · have : nI a - nI b = nI c := by rw [pk_sub (by omega)]; congr 1; omega
          rw [this, if_neg (show ¬ nI c < nI c by rw [z_lt]; omega), if_pos (show -nI c < nI c by rw [z_lt, h2, h3]; omega)]
        · rw [if_pos (show nI a - nI b < nI c by rw [z_lt, h1, h3]; omega)]
          by_cases g4 : b = a + c
          · rw [if_neg (show ¬ -nI c < nI a - nI b by rw [z_lt, h1, h2]; omega)]
            exact Int32.toInt_inj.mp (by rw [h1, h2]; omega)
          · rw [if_pos (show -nI c < nI a - nI b by rw [z_lt, h1, h2]; omega)]
      · rw [Int32.add_comm, Int32.sub_add_cancel]
      · rw [if_pos (show nI a - nI b ≤ nI c by rw [z_le, h1, h3]; omega), if_pos (show -nI c ≤ nI a - nI b by rw [z_le, h1, h2]; omega)]
theorem q157 {N : Nat} {V0 M : Md} {y : Int32} : b_X6_goTick_157 N V0 (M, y) = b_X6_goTick_186 N V0 (M, (21 : Int32), (if y ≤ M.1 21 then M.1 21 else y)) := by
  unfold b_X6_goTick_157
  by_cases g : y ≤ M.1 21
  · rw [if_pos (show (M, y).2 ≤ (M, y).1.1 (Int32.toNatClampNeg (21 : Int32)) from g), if_pos g]; rfl
  · rw [if_neg (show ¬ (M, y).2 ≤ (M, y).1.1 (Int32.toNatClampNeg (21 : Int32)) from g), if_neg g]
theorem q135 {N : Nat} {V0 M : Md} {y : Int32} : b_X6_goTick_135 N V0 (M, y) = b_X6_goTick_186 N V0 ((upd M.1 8 (M.1 8 + y), M.2), (21 : Int32), (if (if 0 ≤ y then y else -y) ≤ (upd M.1 8 (M.1 8 + y), M.2).1 21 then (upd M.1 8 (M.1 8 + y), M.2).1 21 else (if 0 ≤ y then y else -y))) := by
  unfold b_X6_goTick_135
  by_cases g : 0 ≤ y
  · rw [if_pos (show 0 ≤ (M, y).2 from g), if_pos g]
    exact q157
  · rw [if_neg (show ¬ 0 ≤ (M, y).2 from g), if_neg g]
    exact q157
theorem RelSt.speed {T : Nat} {R : Ru} {V : St} {z : Fn} (h : RelSt T R V z) {n : Nat} (hn9 : n ≤ 90) (h2 : z 9 = 2 → n = 0) (J : Int32) : RelSt T R (V.1, V.2.1, V.2.2.1, V.2.2.2.1, V.2.2.2.2.1, V.2.2.2.2.2.1, V.2.2.2.2.2.2.1, V.2.2.2.2.2.2.2.1, V.2.2.2.2.2.2.2.2.1, V.2.2.2.2.2.2.2.2.2.1, V.2.2.2.2.2.2.2.2.2.2.1, nI n, V.2.2.2.2.2.2.2.2.2.2.2.2.1, V.2.2.2.2.2.2.2.2.2.2.2.2.2.1, V.2.2.2.2.2.2.2.2.2.2.2.2.2.2.1, V.2.2.2.2.2.2.2.2.2.2.2.2.2.2.2.1, V.2.2.2.2.2.2.2.2.2.2.2.2.2.2.2.2.1, J) (upd (upd z 8 (nI n)) 21 J) := by
  obtain ⟨p, t, s, a1, a2, a3, b1, b2, b3, b4, b5, b6, c1, c2, c3, c4, c5, c6, c7, c8, m, hn, hs⟩ := h
  have e : ∀ k, k ≠ 8 → k ≠ 21 → upd (upd z 8 (nI n)) 21 J k = z k := fun k h1 h2 => by rw [upd_n h2, upd_n h1]
  have e8 : upd (upd z 8 (nI n)) 21 J 8 = nI n := by rw [upd_n (by decide), upd_e rfl]
  have e21 : upd (upd z 8 (nI n)) 21 J 21 = J := upd_e rfl
  refine ⟨p, t, s, a1, a2, a3, b1, (e 10 (by omega) (by omega)).trans b2, b3, (e 7 (by omega) (by omega)).trans b4, b5, (e 11 (by omega) (by omega)).trans b6, fun j hj => (c1 j hj).trans (e j (by omega) (by omega)).symm, ?_, ?_, ?_, fun j hj => (c5 j hj).trans (e _ (by omega) (by omega)).symm, ?_, ?_, fun j hj => (c8 j hj).trans (e _ (by omega) (by omega)).symm, m, (e 22 (by omega) (by omega)).trans hn, ?_⟩
  · rw [e 0 (by omega) (by omega), e 1 (by omega) (by omega), e 2 (by omega) (by omega), e 3 (by omega) (by omega), e 4 (by omega) (by omega), e 5 (by omega) (by omega), e 6 (by omega) (by omega)]; exact c2
  · rw [e8, z_n (by omega)]; exact ⟨rfl, by omega, by omega⟩
  · rw [e 9 (by omega) (by omega), e8]
    exact ⟨c4.1, c4.2.1, fun g => by rw [h2 g]; rfl⟩
  · rw [e 16 (by omega) (by omega), e 17 (by omega) (by omega), e 18 (by omega) (by omega), e 19 (by omega) (by omega), e 20 (by omega) (by omega), e21]
    exact ⟨c6.1, c6.2.1, c6.2.2.1, c6.2.2.2.1, c6.2.2.2.2.1, rfl⟩
  · intro i hi
    have := c7 i hi
    rw [e (83 + 3 * i) (by omega) (by omega), e (84 + 3 * i) (by omega) (by omega), e (85 + 3 * i) (by omega) (by omega)]
    exact this
  · obtain ⟨h1, h2, h3⟩ := hs
    refine ⟨h1, h2, fun N hN M hM hT => h3 N hN M hM (fun k hk => (hT k hk).trans (e _ (by omega) (by omega)))⟩
theorem r_speed {T : Nat} {R : Ru} {V : St} {M : Md} {N w : Nat} (hN : 5000 ≤ N) (h : RelSt T R V M.1) (hw : w ≤ 4000) (hl : f_X6_loadNow N M = some (nI w)) :
    ∃ (x : Int32) (V' : St) (z' : Fn), f_X4_wantedSpeed N V (nI w) = some x ∧ f_X4_changeSpeed V x (nI w) = some V' ∧ RelSt T R V' z' ∧ V'.2.2.2.2.2.2.1 = V.2.2.2.2.2.2.1 ∧ z' 9 = M.1 9 ∧ z' 11 = M.1 11 ∧ z' 10 = M.1 10 ∧
      (M.1 9 ≠ 0 → (M.1 8 = 0 → z' 8 = 0) ∧ (0 < (M.1 8).toInt → (z' 8).toInt < (M.1 8).toInt)) ∧
      ∀ V0, (if nI w ≤ (M.1 6) then b_X6_goTick_100 N V0 (M, (M.1 2)) else b_X6_goTick_100 N V0 (M, (((M.1 2) + (1 : Int32)) / (2 : Int32)))) = (f_X6_carry N (z', M.2)).bind (tail6 N V0) := by
  obtain ⟨x, w1, w2, w3, w4, w5⟩ := r_wanted hN h hw hl
  obtain ⟨a, ha, ea⟩ := nI_of2 (x := x) (M := 90) (n := 90) z_90 (by rw [z_lt, z_0]; omega) (by rw [z_le, z_90]; omega)
  have h' := h
  obtain ⟨p, t, s, a1, a2, a3, b1, b2, b3, b4, b5, b6, c1, c2, c3, c4, c5, c6, c7, c8, -⟩ := h'
  obtain ⟨q0, q1, q2, q3, q4, q5, q6⟩ := c2
  obtain ⟨b, hb, eb⟩ := nI_of2 (x := M.1 8) (M := 90) (n := 90) z_90 (by rw [z_lt, z_0]; omega) (by rw [z_le, z_90]; omega)
  obtain ⟨c0, hc0, ec0⟩ := nI_of2 (x := M.1 2) (M := 30) (n := 30) z_30 (by rw [z_lt, z_0]; omega) (by rw [z_le, z_30]; omega)
  have hc1 : 1 ≤ c0 := by rw [ec0, z_n (by omega)] at q4; omega
  obtain ⟨c, hc, es1, es2⟩ : ∃ c : Nat, (1 ≤ c ∧ c ≤ 30) ∧ (if nI w ≤ M.1 6 then M.1 2 else (M.1 2 + 1) / 2) = nI c ∧ f_X4_changeSpeed V x (nI w) = b_X4_changeSpeed_27 V x (nI w) (nI c) := by
    unfold f_X4_changeSpeed
    rw [c_6, c_2, c1 6 (by omega), c1 2 (by omega), ec0]
    by_cases g : nI w ≤ M.1 6
    · rw [if_pos g, if_pos g]; exact ⟨c0, ⟨hc1, hc0⟩, rfl, rfl⟩
    · rw [if_neg g, if_neg g, nI_1, show nI (c0 + 1) / (2 : Int32) = nI ((c0 + 1) / 2) from pk_div (d := 2) (by omega) (by omega) (by omega)]
      exact ⟨(c0 + 1) / 2, by omega, rfl, rfl⟩
  obtain ⟨r, n, r1, r2, r3, r4, r5, r6⟩ := rr_cases ha hb hc
  have hn2 : M.1 9 = 2 → n = 0 := fun g => by
    have hx := w5 (by rw [g]; decide)
    have hz := c4.2.2 g
    rw [ea] at hx
    rw [eb] at hz
    exact r4 ((nI_eq (b := 0) (by omega) (by omega)).mp hx) ((nI_eq (b := 0) (by omega) (by omega)).mp hz)
  have ez8 : ∀ J, upd (upd M.1 8 (nI n)) 21 J 8 = nI n := fun J => by rw [upd_n (by decide), upd_e rfl]
  have hm : ∀ J, (M.1 9 ≠ 0 → (M.1 8 = 0 → upd (upd M.1 8 (nI n)) 21 J 8 = 0) ∧ (0 < (M.1 8).toInt → (upd (upd M.1 8 (nI n)) 21 J 8).toInt < (M.1 8).toInt)) := fun J g => by
    have hx := w5 g
    rw [ea] at hx
    have hx' := (nI_eq (b := 0) (by omega) (by omega)).mp hx
    rw [ez8, eb, z_n (by omega), z_n (by omega)]
    refine ⟨fun g2 => ?_, fun g2 => ?_⟩
    · rw [r4 hx' ((nI_eq (b := 0) (by omega) (by omega)).mp g2)]; rfl
    · have := r5 hx' (by omega); omega
  refine ⟨x, _, upd (upd M.1 8 (nI n)) 21 (if M.1 21 < (if 0 ≤ r then r else 0 - r) then (if 0 ≤ r then r else 0 - r) else M.1 21), w1, ?_, RelSt.speed h r3 hn2 _, rfl, ?_, ?_, ?_, hm _, fun V0 => ?_⟩
  · rw [es2]
    unfold b_X4_changeSpeed_27
    rw [c3.1, eb, ea, r1, r2, c6.2.2.2.2.2]
  · rw [upd_n (by decide), upd_n (by decide)]
  · rw [upd_n (by decide), upd_n (by decide)]
  · rw [upd_n (by decide), upd_n (by decide)]
  · have e1 : (if nI w ≤ (M.1 6) then b_X6_goTick_100 N V0 (M, (M.1 2)) else b_X6_goTick_100 N V0 (M, (((M.1 2) + (1 : Int32)) / (2 : Int32)))) = b_X6_goTick_100 N V0 (M, nI c) := by
      rw [← es1]
      by_cases g : nI w ≤ M.1 6
      · rw [if_pos g, if_pos g]
      · rw [if_neg g, if_neg g]
    rw [e1]
    unfold b_X6_goTick_100
    rw [w2, Option.bind_some, c_8]
    dsimp only
    rw [eb, ea, r6 (fun y => b_X6_goTick_135 N V0 (M, y))]
    rw [q135, eb, r2]
    show b_X6_goTick_186 N V0 ((upd M.1 8 (nI n), M.2), (21 : Int32), (if (if 0 ≤ r then r else -r) ≤ upd M.1 8 (nI n) 21 then upd M.1 8 (nI n) 21 else (if 0 ≤ r then r else -r))) = _
    rw [upd_n (show 21 ≠ 8 by decide), Int32.zero_sub]
    obtain ⟨y, hy⟩ : ∃ y : Int32, (if 0 ≤ r then r else -r) = y := ⟨_, rfl⟩
    rw [hy]
    by_cases g2 : y ≤ M.1 21
    · rw [if_pos g2, if_neg (by rw [z_lt]; rw [z_le] at g2; omega)]; rfl
    · rw [if_neg g2, if_pos (by rw [z_lt]; rw [z_le] at g2; omega)]; rfl
