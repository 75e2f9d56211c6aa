/-! one tick: the load, the stop -/
theorem z_30 : (30 : Int32).toInt = 30 := by decide
theorem w_nat {x : Int32} (h1 : 1 ≤ x.toInt) (h2 : x.toInt ≤ 200) : ∃ y : Nat, y ≤ 200 ∧ x = nI y := by
  obtain ⟨j, hj, e⟩ := nI_of2 (x := x) (M := 200) (n := 200) z_200 (by rw [z_lt, z_0]; omega) (by rw [z_le, z_200]; exact h2)
  exact ⟨j, hj, e⟩
theorem load_ok {V : St} {M : Md} {N p : Nat} (hN : 5000 ≤ N) (hp : p ≤ 20) (e1 : V.2.2.2.2.2.2.2.1 = nI p) (e2 : M.1 10 = nI p) (hw : ∀ i, i < p → V.2.2.1 i = M.1 (83 + 3 * i) ∧ 1 ≤ (M.1 (83 + 3 * i)).toInt ∧ (M.1 (83 + 3 * i)).toInt ≤ 200) :
    ∃ w : Nat, w ≤ 4000 ∧ f_X4_totalWeight N V = some (nI w) ∧ f_X6_loadNow N M = some (nI w) := by
  obtain ⟨o1, o2, g1, g2, w, hw1, rfl, rfl⟩ := lp_2 (b1 := b_X4_totalWeight_4 N V) (b2 := b_X6_loadNow_4 N M) (P := fun k s1 s2 => k ≤ p ∧ ∃ w, w ≤ 200 * (p - k) ∧ s1 = (nI w, nI (p - k)) ∧ s2 = (nI w, nI (p - k))) (Q := fun a b => ∃ w, w ≤ 4000 ∧ a = nI w ∧ b = nI w) (by
    rintro k s1 s2 ⟨hk, w, hwk, rfl, rfl⟩
    by_cases k0 : k = 0
    · subst k0
      refine .inl ⟨nI w, nI w, fun K => ?_, fun K => ?_, w, by omega, rfl, rfl⟩
      · unfold b_X4_totalWeight_4 b_X4_totalWeight_33
        rw [e1, if_pos (nI_le (show p ≤ p - 0 by omega) (by omega))]
      · unfold b_X6_loadNow_4
        rw [c_10, e2, if_pos (nI_le (show p ≤ p - 0 by omega) (by omega))]
    · obtain ⟨v1, v2, v3⟩ := hw (p - k) (by omega)
      obtain ⟨y, hy, ey⟩ := w_nat v2 v3
      have hq : (83 : Int32) + 3 * nI (p - k) = nI (83 + 3 * (p - k)) := by rw [show (3 : Int32) = nI 3 from rfl, pk_mul, show (83 : Int32) = nI 83 from rfl, nI_add]
      refine .inr ⟨k - 1, (nI (w + y), nI (p - (k - 1))), (nI (w + y), nI (p - (k - 1))), by omega, ⟨by omega, w + y, by omega, rfl, rfl⟩, fun K => ?_, fun K => ?_⟩
      · unfold b_X4_totalWeight_4
        dsimp only
        rw [e1, if_neg (nI_ge (show p - k < p by omega) (by omega)), if_neg (show ¬ (20 : Int32) ≤ nI (p - k) from nI_ge (show p - k < 20 by omega) (by decide)), ix_nI (show p - k < 20 by omega) (by decide), cl _ (show p - k < 2 ^ 31 by omega), v1, ey, nI_add, nI_1, show p - k + 1 = p - (k - 1) from by omega]
      · unfold b_X6_loadNow_4 f_X6_weight
        dsimp only
        rw [c_10, e2, if_neg (nI_ge (show p - k < p by omega) (by omega)), hq, ix_nI (show 83 + 3 * (p - k) < 173 by omega) (by decide), Option.bind_some, cl _ (show 83 + 3 * (p - k) < 2 ^ 31 by omega), ey, nI_add, nI_1, show p - k + 1 = p - (k - 1) from by omega])
    p N N ((0 : Int32), (0 : Int32)) ((0 : Int32), (0 : Int32)) (by omega) (by omega) ⟨Nat.le_refl _, 0, Nat.zero_le _, by rw [Nat.sub_self]; rfl, by rw [Nat.sub_self]; rfl⟩
  exact ⟨w, hw1, g1, g2⟩
theorem load_rel {T : Nat} {R : Ru} {V : St} {M : Md} {N : Nat} (hN : 5000 ≤ N) (h : RelSt T R V M.1) : ∃ w : Nat, w ≤ 4000 ∧ f_X4_totalWeight N V = some (nI w) ∧ f_X6_loadNow N M = some (nI w) := by
  obtain ⟨p, t, s, a1, a2, a3, b1, b2, b3, b4, b5, b6, c1, c2, c3, c4, c5, c6, c7, c8⟩ := h
  exact load_ok hN a1 b1 b2 (fun i hi => ⟨(c7 i hi).1, (c7 i hi).2.2.2⟩)
def shl (z : Fn) (k : Nat) : Fn := fun x => if 173 - k ≤ x ∧ x < 173 then z (x - 5) else z x
theorem shl_0 (z : Fn) : shl z 0 = z := by
  funext x
  exact if_neg (by omega)
theorem shl_s (z : Fn) {k : Nat} (hk : k < 25) : upd (shl z k) (143 + (29 - k)) (shl z k (143 + (29 - k) - 5)) = shl z (k + 1) := by
  funext x
  unfold shl
  rw [if_neg (show ¬ (173 - k ≤ 143 + (29 - k) - 5 ∧ 143 + (29 - k) - 5 < 173) by omega)]
  by_cases hx : x = 143 + (29 - k)
  · rw [upd_e hx, if_pos (by omega), hx]
  · rw [upd_n hx]
    by_cases hx2 : 173 - k ≤ x ∧ x < 173
    · rw [if_pos hx2, if_pos (by omega)]
    · rw [if_neg hx2, if_neg (by omega)]
theorem shl_lo (z : Fn) {x : Nat} (h : x < 148) : shl z 25 x = z x := if_neg (by omega)
theorem c_143 : Int32.toNatClampNeg (143 : Int32) = 143 := by decide
theorem c_144 : Int32.toNatClampNeg (144 : Int32) = 144 := by decide
theorem c_145 : Int32.toNatClampNeg (145 : Int32) = 145 := by decide
theorem c_146 : Int32.toNatClampNeg (146 : Int32) = 146 := by decide
theorem c_147 : Int32.toNatClampNeg (147 : Int32) = 147 := by decide
def hal (z : Fn) (w v : Int32) : Fn := upd (upd (upd (upd (upd (upd (upd (shl z 25) 143 (z 7)) 144 (z 8)) 145 w) 146 (z 11)) 147 v) 19 (z 19 + 1)) 9 1
theorem q_halt {N : Nat} (hN : 5000 ≤ N) (V : Md) (v : Int32) {w : Int32}
    (hl : ∀ z : Fn, (∀ x, x < 143 → z x = V.1 x) → f_X6_loadNow N (z, V.2) = some w) : f_X6_halt N V v = some (hal V.1 w v, V.2) := by
  have h1 := lp_c (body := b_X6_halt_3 N V v) (fun k => ((shl V.1 k, V.2), nI (29 - k))) 25 (hal V.1 w v, V.2) (by
    intro k hk K
    unfold b_X6_halt_3
    rw [if_neg (show ¬ nI (29 - k) < (5 : Int32) from nI_nlt (show 5 ≤ 29 - k by omega) (show 29 - k < 2 ^ 31 by omega))]
    dsimp only
    rw [show (143 : Int32) + nI (29 - k) = nI (143 + (29 - k)) from nI_add 143 _, show nI (143 + (29 - k)) - (5 : Int32) = nI (143 + (29 - k) - 5) from pk_sub (b := 5) (show 5 ≤ 143 + (29 - k) by omega), ix_nI (show 143 + (29 - k) - 5 < 173 by omega) (by decide), ix_nI (show 143 + (29 - k) < 173 by omega) (by decide), cl _ (show 143 + (29 - k) - 5 < 2 ^ 31 by omega), cl _ (show 143 + (29 - k) < 2 ^ 31 by omega), shl_s V.1 hk, show nI (29 - k) - (1 : Int32) = nI (29 - (k + 1)) from by
      have := nI_pred (29 - (k + 1)); rw [show 29 - (k + 1) + 1 = 29 - k from by omega] at this; exact this]) (by
    intro K
    unfold b_X6_halt_3
    rw [if_pos (show nI (29 - 25) < (5 : Int32) by decide)]
    dsimp only
    rw [c_143, c_144, c_145, c_146, c_147, c_7, c_8, c_9, c_11, c_19, shl_lo V.1 (show 7 < 148 by decide), upd_n (show 8 ≠ 143 by decide), shl_lo V.1 (show 8 < 148 by decide)]
    have hw := hl (upd (upd (shl V.1 25) 143 (V.1 7)) 144 (V.1 8)) (fun x hx => by rw [upd_n (by omega), upd_n (by omega), shl_lo V.1 (by omega)])
    rw [show (upd (upd (shl V.1 25) 143 (V.1 7)) 144 (V.1 8), V.2) = (upd (upd (shl V.1 25) 143 (V.1 7)) 144 (V.1 8), V.2.1, V.2.2.1, V.2.2.2.1, V.2.2.2.2.1, V.2.2.2.2.2.1, V.2.2.2.2.2.2.1, V.2.2.2.2.2.2.2.1, V.2.2.2.2.2.2.2.2.1, V.2.2.2.2.2.2.2.2.2.1, V.2.2.2.2.2.2.2.2.2.2.1, V.2.2.2.2.2.2.2.2.2.2.2.1, V.2.2.2.2.2.2.2.2.2.2.2.2.1, V.2.2.2.2.2.2.2.2.2.2.2.2.2) from rfl] at hw
    rw [hw, Option.bind_some, upd_n (show 11 ≠ 145 by decide), upd_n (show 11 ≠ 144 by decide), upd_n (show 11 ≠ 143 by decide), shl_lo V.1 (show 11 < 148 by decide)]
    rw [upd_n (show 19 ≠ 147 by decide), upd_n (show 19 ≠ 146 by decide), upd_n (show 19 ≠ 145 by decide), upd_n (show 19 ≠ 144 by decide), upd_n (show 19 ≠ 143 by decide), shl_lo V.1 (show 19 < 148 by decide)]
    rfl) (N := N) (by omega)
  rw [shl_0] at h1
  exact h1
theorem c_1 : Int32.toNatClampNeg (1 : Int32) = 1 := by decide
theorem c_3 : Int32.toNatClampNeg (3 : Int32) = 3 := by decide
theorem c_4 : Int32.toNatClampNeg (4 : Int32) = 4 := by decide
theorem c_5 : Int32.toNatClampNeg (5 : Int32) = 5 := by decide
theorem c_6 : Int32.toNatClampNeg (6 : Int32) = 6 := by decide
theorem c_25 : Int32.toNatClampNeg (25 : Int32) = 25 := by decide
/-- beginning a stop -/
theorem r_halt {T : Nat} {R : Ru} {V : St} {M : Md} {N : Nat} (hN : 5000 ≤ N) (h : RelSt T R V M.1) (v : Int32) : ∃ (V' : St) (z' : Fn), f_X4_beginStop N V v = some V' ∧ f_X6_halt N M v = some (z', M.2) ∧ RelSt T R V' z' ∧
    V'.2.2.2.2.2.2.1 = V.2.2.2.2.2.2.1 ∧ V'.2.2.2.2.2.2.2.2.2.1 = 1 ∧ z' 9 = 1 ∧ z' 8 = M.1 8 ∧ z' 2 = M.1 2 ∧ z' 11 = M.1 11 ∧ z' 10 = M.1 10 := by
  obtain ⟨p, t, s, a1, a2, a3, b1, b2, b3, b4, b5, b6, c1, c2, c3, c4, c5, c6, c7, c8, n, hn, hs⟩ := h
  obtain ⟨w, hw, g1, g2⟩ := load_ok (V := V) (M := M) hN a1 b1 b2 (fun i hi => ⟨(c7 i hi).1, (c7 i hi).2.2.2⟩)
  have hl : ∀ z : Fn, (∀ x, x < 143 → z x = M.1 x) → f_X6_loadNow N (z, M.2) = some (nI w) := by
    intro z hz
    obtain ⟨w', hw', g1', g2'⟩ := load_ok (V := V) (M := (z, M.2)) hN a1 b1 ((hz 10 (by omega)).trans b2) (fun i hi => by
      show V.2.2.1 i = z (83 + 3 * i) ∧ 1 ≤ (z (83 + 3 * i)).toInt ∧ (z (83 + 3 * i)).toInt ≤ 200
      rw [hz (83 + 3 * i) (by omega)]
      exact ⟨(c7 i hi).1, (c7 i hi).2.2.2⟩)
    rw [g1] at g1'
    rw [g2', ← Option.some.inj g1']
  have e : ∀ k, k ≠ 9 → k ≠ 19 → k < 143 → hal M.1 (nI w) v k = M.1 k := fun k h1 h2 h3 => by
    unfold hal
    rw [upd_n h1, upd_n h2, upd_n (by omega), upd_n (by omega), upd_n (by omega), upd_n (by omega), upd_n (by omega), shl_lo M.1 (by omega)]
  have e9 : hal M.1 (nI w) v 9 = 1 := upd_e rfl
  have e19 : hal M.1 (nI w) v 19 = M.1 19 + 1 := (upd_n (by decide)).trans (upd_e rfl)
  have gb : f_X4_totalWeight N (V.1, V.2.1, V.2.2.1, V.2.2.2.1, V.2.2.2.2.1, (upd (upd (va_cpy V.2.2.2.2.2.1 V.2.2.2.2.2.1 0 5 25) 0 V.2.2.2.2.2.2.2.2.2.2.1) 1 V.2.2.2.2.2.2.2.2.2.2.2.1), V.2.2.2.2.2.2.1, V.2.2.2.2.2.2.2.1, V.2.2.2.2.2.2.2.2.1, (1 : Int32), V.2.2.2.2.2.2.2.2.2.2.1, V.2.2.2.2.2.2.2.2.2.2.2.1, V.2.2.2.2.2.2.2.2.2.2.2.2.1, V.2.2.2.2.2.2.2.2.2.2.2.2.2.1, (V.2.2.2.2.2.2.2.2.2.2.2.2.2.2.1 + (1 : Int32)), V.2.2.2.2.2.2.2.2.2.2.2.2.2.2.2.1, V.2.2.2.2.2.2.2.2.2.2.2.2.2.2.2.2.1, V.2.2.2.2.2.2.2.2.2.2.2.2.2.2.2.2.2) = some (nI w) := by
    obtain ⟨w', hw', g1', g2'⟩ := load_ok (V := (V.1, V.2.1, V.2.2.1, V.2.2.2.1, V.2.2.2.2.1, (upd (upd (va_cpy V.2.2.2.2.2.1 V.2.2.2.2.2.1 0 5 25) 0 V.2.2.2.2.2.2.2.2.2.2.1) 1 V.2.2.2.2.2.2.2.2.2.2.2.1), V.2.2.2.2.2.2.1, V.2.2.2.2.2.2.2.1, V.2.2.2.2.2.2.2.2.1, (1 : Int32), V.2.2.2.2.2.2.2.2.2.2.1, V.2.2.2.2.2.2.2.2.2.2.2.1, V.2.2.2.2.2.2.2.2.2.2.2.2.1, V.2.2.2.2.2.2.2.2.2.2.2.2.2.1, (V.2.2.2.2.2.2.2.2.2.2.2.2.2.2.1 + (1 : Int32)), V.2.2.2.2.2.2.2.2.2.2.2.2.2.2.2.1, V.2.2.2.2.2.2.2.2.2.2.2.2.2.2.2.2.1, V.2.2.2.2.2.2.2.2.2.2.2.2.2.2.2.2.2)) (M := M) hN a1 b1 b2 (fun i hi => ⟨(c7 i hi).1, (c7 i hi).2.2.2⟩)
    rw [g2] at g2'
    rw [g1', ← Option.some.inj g2']
  unfold f_X4_beginStop
  rw [c_0, c_5, c_25, c_1, gb, Option.bind_some, q_halt hN M v hl]
  refine ⟨_, _, rfl, rfl, ?_, rfl, rfl, e9, e 8 (by omega) (by omega) (by omega), e 2 (by omega) (by omega) (by omega), e 11 (by omega) (by omega) (by omega), e 10 (by omega) (by omega) (by omega)⟩
  refine ⟨p, t, s, a1, a2, a3, b1, (e 10 (by omega) (by omega) (by omega)).trans b2, b3, (e 7 (by omega) (by omega) (by omega)).trans b4, b5, (e 11 (by omega) (by omega) (by omega)).trans b6, fun j hj => (c1 j hj).trans (e j (by omega) (by omega) (by omega)).symm, ?_, ?_, ⟨e9.symm, .inr (.inl e9), fun h => absurd (e9.symm.trans h) (by decide)⟩, fun j hj => (c5 j hj).trans (e _ (by omega) (by omega) (by omega)).symm, ?_, ?_, ?_, n, (e 22 (by omega) (by omega) (by omega)).trans hn, ?_⟩
  · rw [e 0 (by omega) (by omega) (by omega), e 1 (by omega) (by omega) (by omega), e 2 (by omega) (by omega) (by omega), e 3 (by omega) (by omega) (by omega), e 4 (by omega) (by omega) (by omega), e 5 (by omega) (by omega) (by omega), e 6 (by omega) (by omega) (by omega)]; exact c2
  · rw [e 8 (by omega) (by omega) (by omega)]; exact c3
  · rw [e 16 (by omega) (by omega) (by omega), e 17 (by omega) (by omega) (by omega), e 18 (by omega) (by omega) (by omega), e19, e 20 (by omega) (by omega) (by omega), e 21 (by omega) (by omega) (by omega)]
    exact ⟨c6.1, c6.2.1, c6.2.2.1, congrArg (· + 1) c6.2.2.2.1, c6.2.2.2.2.1, c6.2.2.2.2.2⟩
  · intro i hi
    have := c7 i hi
    rw [e (83 + 3 * i) (by omega) (by omega) (by omega), e (84 + 3 * i) (by omega) (by omega) (by omega), e (85 + 3 * i) (by omega) (by omega) (by omega)]
    exact this
  · intro j hj
    show upd (upd (upd (upd (upd (va_cpy V.2.2.2.2.2.1 V.2.2.2.2.2.1 0 5 25) 0 V.2.2.2.2.2.2.2.2.2.2.1) 1 V.2.2.2.2.2.2.2.2.2.2.2.1) (Int32.toNatClampNeg (2 : Int32)) (nI w)) (Int32.toNatClampNeg (3 : Int32)) V.2.2.2.2.2.2.2.2.1) (Int32.toNatClampNeg (4 : Int32)) v j = hal M.1 (nI w) v (143 + j)
    rw [c_2, c_3, c_4]
    unfold hal
    rw [upd_n (show 143 + j ≠ 9 by omega), upd_n (show 143 + j ≠ 19 by omega)]
    by_cases j4 : j = 4
    · subst j4; rw [upd_e rfl, upd_e rfl]
    rw [upd_n j4, upd_n (show 143 + j ≠ 147 by omega)]
    by_cases j3 : j = 3
    · subst j3; rw [upd_e rfl, upd_e rfl]; exact b5.trans b6.symm
    rw [upd_n j3, upd_n (show 143 + j ≠ 146 by omega)]
    by_cases j2 : j = 2
    · subst j2; rw [upd_e rfl, upd_e rfl]
    rw [upd_n j2, upd_n (show 143 + j ≠ 145 by omega)]
    by_cases j1 : j = 1
    · subst j1; rw [upd_e rfl, upd_e rfl]; exact c3.1
    rw [upd_n j1, upd_n (show 143 + j ≠ 144 by omega)]
    by_cases j0 : j = 0
    · subst j0; rw [upd_e rfl, upd_e rfl]; exact b3.trans b4.symm
    rw [upd_n j0, upd_n (show 143 + j ≠ 143 by omega)]
    unfold va_cpy shl
    rw [if_pos (show 5 ≤ j ∧ j < 5 + 25 by omega), if_pos (show 173 - 25 ≤ 143 + j ∧ 143 + j < 173 by omega), c8 (0 + (j - 5)) (by omega), show 143 + (0 + (j - 5)) = 143 + j - 5 from by omega]
  · obtain ⟨h1, h2, h3⟩ := hs
    refine ⟨h1, h2, fun N hN M hM hT => h3 N hN M hM (fun k hk => (hT k hk).trans (e _ (by omega) (by omega) (by omega)))⟩
theorem st_stop {ρ : Nat → Ru} {RS : Nat → Prop} {Vp : Pd} {Vd : Rd} {Vn : St} {Vm : St} {Vh : Hb} {Vk0 : St} {Vk1 : St} {Vk2 : St} {Vk3 : St} {Vk4 : St} {Vk5 : St} {Vs0 : St} {Vs1 : St} {Vz : Fn} {M : Md} {N : Nat} (hN : 5000 ≤ N) (H : RelS ρ RS (Vp, Vd, Vn, Vm, Vh, Vk0, Vk1, Vk2, Vk3, Vk4, Vk5, Vs0, Vs1, Vz) M) : ∃ (o1 : Int32 × St × Hb × St × St × St × St × St × St) (o2 : Int32 × Md), f_X5_stop N Vn Vh Vk0 Vk1 Vk2 Vk3 Vk4 Vk5 = some o1 ∧ f_X6_stop N M = some o2 ∧ o1.1 = o2.1 ∧ RelS ρ RS (Vp, Vd, o1.2.1, Vm, o1.2.2.1, o1.2.2.2.1, o1.2.2.2.2.1, o1.2.2.2.2.2.1, o1.2.2.2.2.2.2.1, o1.2.2.2.2.2.2.2.1, o1.2.2.2.2.2.2.2.2, Vs0, Vs1, Vz) o2.2 := by
  obtain ⟨hn, hh, hs, hp⟩ := RelS_iff.mp H
  unfold f_X5_stop f_X6_stop
  rw [c_9, (mod hn.1).1]
  by_cases h0 : M.1 9 = 0
  · rw [if_pos h0, if_pos h0]
    obtain ⟨o, P, c, f1, f2, f3⟩ := r_record hN H
    obtain ⟨V', z', g1, g2, g3, g4, g5, g6, g7, g8⟩ := r_halt (M := (M.1, P, M.2.2.1, M.2.2.2.1, c, M.2.2.2.2.2)) hN hn.1 1
    rw [f1, f2, Option.bind_some, Option.bind_some, g1, g2, Option.bind_some, Option.bind_some, c_8]
    obtain ⟨p, t, s, a1, a2, a3, b1, b2, b3, b4, b5, b6, c1, c2, c3, c4⟩ := g3
    refine ⟨_, _, rfl, rfl, c3.1, RelS_iff.mpr ⟨⟨?_, ?_⟩, f3, hs, hp⟩⟩
    · show RelSt _ (ρ V'.2.2.2.2.2.2.1) V' z'
      rw [g4]
      exact ⟨p, t, s, a1, a2, a3, b1, b2, b3, b4, b5, b6, c1, c2, c3, c4⟩
    · show RS V'.2.2.2.2.2.2.1
      rw [g4]; exact hn.2
  · rw [if_neg h0, if_neg h0]
    exact ⟨_, _, rfl, rfl, rfl, H⟩
