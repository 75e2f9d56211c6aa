/-! load -/
theorem SemA_ext {R : Ru} {n : Nat} {T T' : Fn} (h : SemA R n T) (e : ∀ k, k < n → T' k = T k) : SemA R n T' :=
  ⟨h.1, h.2.1, fun N hN M e22 ek => h.2.2 N hN M e22 (fun k hk => (ek k hk).trans (e k hk))⟩
theorem RelSt.rule {T : Nat} {R R' : Ru} {V : St} {z y : Fn} (h : RelSt T R V z) (e : ∀ x, x < 22 ∨ 83 ≤ x → y x = z x) (hR : RuleOK R' y) (a : Nat) : RelSt T R' (setr V a) y := by
  obtain ⟨p, t, s, a1, a2, a3, b1, b2, b3, b4, b5, b6, c1, c2, c3, c4, c5, c6, c7, c8, hr⟩ := h
  have e0 := e 0 (by omega); have e1 := e 1 (by omega); have e2 := e 2 (by omega); have e3 := e 3 (by omega); have e4 := e 4 (by omega); have e5 := e 5 (by omega); have e6 := e 6 (by omega)
  refine ⟨p, t, s, a1, a2, a3, b1, (e 10 (by omega)).trans b2, b3, (e 7 (by omega)).trans b4, b5, (e 11 (by omega)).trans b6, fun j hj => (c1 j hj).trans (e j (by omega)).symm, ?_, ?_, ?_, fun j hj => (c5 j hj).trans (e _ (by omega)).symm, ?_, ?_, fun j hj => (c8 j hj).trans (e _ (by omega)).symm, hR⟩
  · rw [e0, e1, e2, e3, e4, e5, e6]; exact c2
  · rw [e 8 (by omega)]; exact c3
  · rw [e 9 (by omega), e 8 (by omega)]; exact c4
  · rw [e 16 (by omega), e 17 (by omega), e 18 (by omega), e 19 (by omega), e 20 (by omega), e 21 (by omega)]; exact c6
  · intro i hi
    have := c7 i hi
    rw [e (83 + 3 * i) (by omega), e (84 + 3 * i) (by omega), e (85 + 3 * i) (by omega)]
    exact this
def cpl (z A : Fn) (n k : Nat) : Fn := fun x => if 23 ≤ x ∧ x < 23 + k then (if x - 23 < n then A (x - 23) else 0) else z x
theorem cpl_s (z A : Fn) (n k : Nat) : upd (cpl z A n k) (23 + k) (if k < n then A k else 0) = cpl z A n (k + 1) := by
  funext x
  unfold upd cpl
  by_cases h : x = 23 + k
  · subst h
    rw [if_pos rfl, if_pos (show 23 ≤ 23 + k ∧ 23 + k < 23 + (k + 1) from by omega), Nat.add_sub_cancel_left]
  · rw [if_neg h]
    by_cases h2 : 23 ≤ x ∧ x < 23 + k
    · rw [if_pos h2, if_pos (show 23 ≤ x ∧ x < 23 + (k + 1) from by omega)]
    · rw [if_neg h2, if_neg (show ¬ (23 ≤ x ∧ x < 23 + (k + 1)) from by omega)]
theorem load_loop {N n : Nat} {V M : Md} (hN : 5000 ≤ N) (hn : n ≤ 60) (e : M.2.2.2.2.2.2.2.1 = nI n) {o : Int32} (hp : f_X6_parts N (upd (cpl M.1 M.2.2.2.2.2.2.1 n 60) 22 (nI n), M.2.1, M.2.2.1, M.2.2.2.1, M.2.2.2.2.1, M.2.2.2.2.2.1, M.2.2.2.2.2.2.1, (0 : Int32), M.2.2.2.2.2.2.2.2) = some o) : lp (b_X6_load_18 N V) N (M, (0 : Int32)) = some (o, (upd (cpl M.1 M.2.2.2.2.2.2.1 n 60) 22 (nI n), M.2.1, M.2.2.1, M.2.2.2.1, M.2.2.2.2.1, M.2.2.2.2.2.1, M.2.2.2.2.2.2.1, (0 : Int32), M.2.2.2.2.2.2.2.2)) := by
  have h22 : Int32.toNatClampNeg (22 : Int32) = 22 := by decide
  have e0 : cpl M.1 M.2.2.2.2.2.2.1 n 0 = M.1 := by
    funext x
    unfold cpl
    rw [if_neg (by omega)]
  have main := lp_c (body := b_X6_load_18 N V) (fun k => ((cpl M.1 M.2.2.2.2.2.2.1 n k, M.2), nI k)) 60 (o, (upd (cpl M.1 M.2.2.2.2.2.2.1 n 60) 22 (nI n), M.2.1, M.2.2.1, M.2.2.2.1, M.2.2.2.2.1, M.2.2.2.2.2.1, M.2.2.2.2.2.2.1, (0 : Int32), M.2.2.2.2.2.2.2.2)) (fun k hk K => by
    have e23 : (23 : Int32) + nI k = nI (23 + k) := by rw [show (23 : Int32) = nI 23 from by decide, nI_add]
    unfold b_X6_load_18 b_X6_load_50
    refine (if_neg (show ¬ (60 : Int32) ≤ nI k from nI_ge (b := 60) hk (by decide))).trans ?_
    dsimp only
    rw [e, e23, ← cpl_s]
    by_cases c : k < n
    · rw [if_neg (nI_ge c (by omega)), ix_nI hk (by decide), ix_nI (show 23 + k < 173 by omega) (by decide), cl (23 + k) (by omega), cl k (by omega), nI_1, if_pos c, ← e]
    · rw [if_pos (nI_le (by omega) (by omega)), ix_nI (show 23 + k < 173 by omega) (by decide), cl (23 + k) (by omega), nI_1, if_neg c, ← e]) (fun K => by
    unfold b_X6_load_18
    refine (if_pos (show (60 : Int32) ≤ nI 60 from by decide)).trans ?_
    dsimp only
    rw [h22, e]
    show (f_X6_parts N (upd (cpl M.1 M.2.2.2.2.2.2.1 n 60) 22 (nI n), M.2.1, M.2.2.1, M.2.2.2.1, M.2.2.2.2.1, M.2.2.2.2.2.1, M.2.2.2.2.2.2.1, (0 : Int32), M.2.2.2.2.2.2.2.2)).bind _ = _
    rw [hp, Option.bind_some]) (N := N) (by omega)
  rw [e0] at main
  exact main
theorem st_load {ρ : Nat → Ru} {RS : Nat → Prop} {Vp : Pd} {Vd : Rd} {Vn : St} {Vm : St} {Vh : Hb} {Vk0 : St} {Vk1 : St} {Vk2 : St} {Vk3 : St} {Vk4 : St} {Vk5 : St} {Vs0 : St} {Vs1 : St} {Vz : Fn} {M : Md} {N : Nat} (hN : 5000 ≤ N) (H : RelS ρ RS (Vp, Vd, Vn, Vm, Vh, Vk0, Vk1, Vk2, Vk3, Vk4, Vk5, Vs0, Vs1, Vz) M) : ∃ (o1 : Int32 × Pd × Rd × St × Hb × St × St × St × St × St × St × Option Ru) (o2 : Int32 × Md), f_X5_load N Vp Vd Vn Vh Vk0 Vk1 Vk2 Vk3 Vk4 Vk5 = some o1 ∧ f_X6_load N M = some o2 ∧ o1.1 = o2.1 ∧ (o1.2.2.2.2.2.2.2.2.2.2.2 = none → RelS ρ RS (o1.2.1, o1.2.2.1, o1.2.2.2.1, Vm, o1.2.2.2.2.1, o1.2.2.2.2.2.1, o1.2.2.2.2.2.2.1, o1.2.2.2.2.2.2.2.1, o1.2.2.2.2.2.2.2.2.1, o1.2.2.2.2.2.2.2.2.2.1, o1.2.2.2.2.2.2.2.2.2.2.1, Vs0, Vs1, Vz) o2.2) ∧ (∀ R, o1.2.2.2.2.2.2.2.2.2.2.2 = some R → ∀ (a : Nat) (ρ2 : Nat → Ru) (RS2 : Nat → Prop), (∀ r, RS r → ρ2 r = ρ r ∧ RS2 r) → ρ2 a = R → RS2 a → RelS ρ2 RS2 (o1.2.1, o1.2.2.1, setr o1.2.2.2.1 a, Vm, o1.2.2.2.2.1, o1.2.2.2.2.2.1, o1.2.2.2.2.2.2.1, o1.2.2.2.2.2.2.2.1, o1.2.2.2.2.2.2.2.2.1, o1.2.2.2.2.2.2.2.2.2.1, o1.2.2.2.2.2.2.2.2.2.2.1, Vs0, Vs1, Vz) o2.2) := by
  obtain ⟨f, f', f1, f2, rfl, -⟩ := st_fault hN H
  have f3 : f_X1_findFault N Vp = some f := by
    unfold f_X5_fault at f1
    cases h : f_X1_findFault N Vp with
    | none => rw [h] at f1; cases f1
    | some x => rw [h] at f1; exact f1
  by_cases c : f = -6
  · subst c
    obtain ⟨oR, P, cc, r1, r2, r3⟩ := r_record hN H
    obtain ⟨hn, hh, hs, n, hp1, hp2, hp3, hp4⟩ := RelS_iff.mp H
    have hgr := fault_gr hN hp1 hp2 f3
    obtain ⟨o, g1, g2, g3⟩ := read_ok (T := Vp.1) (Tt := Vp.1) (len := n) (nt := 60) (V := Vd) (N := N) hN hp1 ⟨hp1, by decide⟩ (fun k _ => rfl) hgr
    have cell : ∀ k, k < n → upd (cpl M.1 M.2.2.2.2.2.2.1 n 60) 22 (nI n) (23 + k) = Vp.1 k := by
      intro k hk
      rw [upd_n (by omega)]
      unfold cpl
      rw [if_pos (by omega), Nat.add_sub_cancel_left, if_pos hk]
      exact (hp4 k hk).symm
    have hpt := parts_ok (M := (upd (cpl M.1 M.2.2.2.2.2.2.1 n 60) 22 (nI n), P, M.2.2.1, M.2.2.2.1, cc, M.2.2.2.2.2.1, M.2.2.2.2.2.2.1, (0 : Int32), M.2.2.2.2.2.2.2.2)) (T := Vp.1) hN hp1 (show upd (cpl M.1 M.2.2.2.2.2.2.1 n 60) 22 (nI n) 22 = nI n from upd_e rfl) cell
    have hlp := load_loop (N := N) (n := n) (V := M) (M := (M.1, P, M.2.2.1, M.2.2.2.1, cc, M.2.2.2.2.2)) hN hp1 hp3 hpt
    refine ⟨(o.2.2.2.2.2.1, (Vp.1, (0 : Int32)), o.1, Vn, oR.1, oR.2.1, oR.2.2.1, oR.2.2.2.1, oR.2.2.2.2.1, oR.2.2.2.2.2.1, oR.2.2.2.2.2.2, some o.2), (nI (ct gn Vp.1 n), (upd (cpl M.1 M.2.2.2.2.2.2.1 n 60) 22 (nI n), P, M.2.2.1, M.2.2.2.1, cc, M.2.2.2.2.2.1, M.2.2.2.2.2.2.1, (0 : Int32), M.2.2.2.2.2.2.2.2)), ?_, ?_, g3, (fun h => by cases h), fun R hR a ρ2 RS2 hρ ha hRS => ?_⟩
    · unfold f_X5_load
      rw [f3, Option.bind_some, if_pos rfl, r1, Option.bind_some, hp2, g1, Option.bind_some]
    · unfold f_X6_load
      rw [f2, Option.bind_some, if_pos rfl, r2, Option.bind_some]
      exact hlp
    · obtain rfl : o.2 = R := Option.some.inj hR
      refine RelS_iff.mpr ⟨⟨?_, hRS⟩, ?_, ?_, 0, by omega, rfl, rfl, fun k hk => absurd hk (Nat.not_lt_zero _)⟩
      · rw [show ρ2 (setr Vn a).2.2.2.2.2.2.1 = o.2 from ha]
        refine hn.1.rule (fun x hx => ?_) ⟨n, upd_e rfl, SemA_ext g2 cell⟩ a
        show upd (cpl M.1 M.2.2.2.2.2.2.1 n 60) 22 (nI n) x = M.1 x
        rw [upd_n (by omega)]
        unfold cpl
        rw [if_neg (by omega)]
      · obtain ⟨l, h, hl, hh2, e1, e2, e3, hj⟩ := r3
        refine ⟨l, h, hl, hh2, e1, e2, e3, fun j hj' => ?_⟩
        obtain ⟨q1, q2⟩ := hj j hj'
        obtain ⟨w1, w2⟩ := hρ _ q2
        rw [w1]
        exact ⟨q1, w2⟩
      · intro b hb
        rcases hs b hb with z | ⟨z1, z2, z3, z4⟩
        · exact .inl z
        · obtain ⟨w1, w2⟩ := hρ _ z4
          rw [w1]
          exact .inr ⟨z1, z2, z3, w2⟩
  · refine ⟨(-3, Vp, Vd, Vn, Vh, Vk0, Vk1, Vk2, Vk3, Vk4, Vk5, none), (-3, M), ?_, ?_, rfl, fun _ => H, fun R hR => by cases hR⟩
    · unfold f_X5_load
      rw [f3, Option.bind_some, if_neg c]
    · unfold f_X6_load
      rw [f2, Option.bind_some, if_neg c]
