/-! the way a stop takes -/
theorem RelSt.mode1 {T : Nat} {R : Ru} {V : St} {z : Fn} (h : RelSt T R V z) : RelSt T R (V.1, V.2.1, V.2.2.1, V.2.2.2.1, V.2.2.2.2.1, V.2.2.2.2.2.1, V.2.2.2.2.2.2.1, V.2.2.2.2.2.2.2.1, V.2.2.2.2.2.2.2.2.1, (1 : Int32), V.2.2.2.2.2.2.2.2.2.2) (upd z 9 1) := by
  obtain ⟨p, t, s, a1, a2, a3, b1, b2, b3, b4, b5, b6, c1, c2, c3, c4, c5, c6, c7, c8, n, hn, hs⟩ := h
  have e : ∀ k, k ≠ 9 → upd z 9 1 k = z k := fun k hk => upd_n hk
  refine ⟨p, t, s, a1, a2, a3, b1, (e 10 (by omega)).trans b2, b3, (e 7 (by omega)).trans b4, b5, (e 11 (by omega)).trans b6, fun j hj => (c1 j hj).trans (e j (by omega)).symm, ?_, ?_, ⟨(upd_e rfl).symm, .inr (.inl (upd_e rfl)), fun h => absurd ((upd_e rfl).symm.trans h) (by decide)⟩, fun j hj => (c5 j hj).trans (e _ (by omega)).symm, ?_, ?_, fun j hj => (c8 j hj).trans (e _ (by omega)).symm, n, (e 22 (by omega)).trans hn, ?_⟩
  · rw [e 0 (by omega), e 1 (by omega), e 2 (by omega), e 3 (by omega), e 4 (by omega), e 5 (by omega), e 6 (by omega)]; exact c2
  · rw [e 8 (by omega)]; exact c3
  · rw [e 16 (by omega), e 17 (by omega), e 18 (by omega), e 19 (by omega), e 20 (by omega), e 21 (by omega)]; exact c6
  · intro i hi
    have := c7 i hi
    rw [e (83 + 3 * i) (by omega), e (84 + 3 * i) (by omega), e (85 + 3 * i) (by omega)]
    exact this
  · obtain ⟨h1, h2, h3⟩ := hs
    refine ⟨h1, h2, fun N hN M hM hT => h3 N hN M hM (fun k hk => (hT k hk).trans (e _ (by omega)))⟩
/-- the reference after a trial run: its rows stand as before -/
def Sc2 (M M2 : Md) : Prop := (∀ x, x < 173 → M2.1 x = M.1 x) ∧ M2.2.1 = M.2.1 ∧ M2.2.2.1 = M.2.2.1 ∧ M2.2.2.2.1 = M.2.2.2.1 ∧ M2.2.2.2.2.1 = M.2.2.2.2.1 ∧ M2.2.2.2.2.2.2.1 = M.2.2.2.2.2.2.1 ∧ M2.2.2.2.2.2.2.2.1 = M.2.2.2.2.2.2.2.1
theorem Sc2.refl (M : Md) : Sc2 M M := ⟨fun _ _ => rfl, rfl, rfl, rfl, rfl, rfl, rfl⟩
theorem Sc2.trans {A B C : Md} (h : Sc2 A B) (g : Sc2 B C) : Sc2 A C :=
  ⟨fun x hx => (g.1 x hx).trans (h.1 x hx), g.2.1.trans h.2.1, g.2.2.1.trans h.2.2.1, g.2.2.2.1.trans h.2.2.2.1, g.2.2.2.2.1.trans h.2.2.2.2.1, g.2.2.2.2.2.1.trans h.2.2.2.2.2.1, g.2.2.2.2.2.2.trans h.2.2.2.2.2.2⟩
theorem RelS.sc2 {ρ : Nat → Ru} {RS : Nat → Prop} {Vp : Pd} {Vd : Rd} {Vn : St} {Vm Vm' : St} {Vh : Hb} {Vk0 : St} {Vk1 : St} {Vk2 : St} {Vk3 : St} {Vk4 : St} {Vk5 : St} {Vs0 : St} {Vs1 : St} {Vz : Fn} {M M2 : Md} (H : RelS ρ RS (Vp, Vd, Vn, Vm, Vh, Vk0, Vk1, Vk2, Vk3, Vk4, Vk5, Vs0, Vs1, Vz) M) (e : Sc2 M M2) : RelS ρ RS (Vp, Vd, Vn, Vm', Vh, Vk0, Vk1, Vk2, Vk3, Vk4, Vk5, Vs0, Vs1, Vz) M2 := by
  obtain ⟨hn, hh, hs, hp⟩ := RelS_iff.mp H
  obtain ⟨e1, e2, e3, e4, e5, e6, e7⟩ := e
  refine RelS_iff.mpr ⟨⟨hn.1.cells e1, hn.2⟩, ?_, ?_, ?_⟩
  · rw [e2, e5]; exact hh
  · rw [e3, e4]; exact hs
  · rw [e6, e7]; exact hp
theorem back_sc2 {N : Nat} (hN : 5000 ≤ N) {M A B : Md} (hA : A.2 = (M.2.1, M.2.2.1, M.2.2.2.1, M.2.2.2.2.1, cpf M.2.2.2.2.2.1 M.1 0 0 173, M.2.2.2.2.2.2)) (hB : Scr A (A.1, B.2)) : ∃ M2, f_X6_bringBack N B = some M2 ∧ Sc2 M M2 := by
  refine ⟨_, q_bringBack hN B, fun x hx => ?_, ?_⟩
  · show cpf B.1 B.2.2.2.2.2.1 0 0 173 x = M.1 x
    rw [cpf_in (by omega) (by omega), show B.2.2.2.2.2.1 = A.2.2.2.2.2.1 from hB.2.2.2.2.2.1, show A.2.2.2.2.2.1 = cpf M.2.2.2.2.2.1 M.1 0 0 173 from by rw [hA], cpf_in (by omega) (by omega), show 0 + (0 + (x - 0) - 0) = x from by omega]
  · obtain ⟨h1, h2, h3, h4, h5, h6, h7, h8⟩ := hB
    dsimp only at h2 h3 h4 h5 h7 h8
    rw [hA] at h2 h3 h4 h5 h7 h8
    exact ⟨h2, h3, h4, h5, h7, h8⟩
/-- from a stop begun to standstill, both sides -/
theorem r_units {T : Nat} {R : Ru} {V W0 : St} {A M : Md} {N : Nat} {c : Int32} (hN : 5000 ≤ N) (h : RelSt T R V A.1) (hA : A.2 = (M.2.1, M.2.2.1, M.2.2.2.1, M.2.2.2.2.1, cpf M.2.2.2.2.2.1 M.1 0 0 173, M.2.2.2.2.2.2)) (V0 : Md) (st : Int32) (h9 : A.1 9 = 1 ∨ A.1 9 = 2) :
    ∃ (u : Int32) (C : St) (M2 : Md), lp (b_X4_unitsUntilStopped_19 N W0) N (V, st, (0 : Int32)) = some (u, C) ∧ lp (b_X6_wayWith_47 N V0 c) N (A, st) = some (u, M2) ∧ Sc2 M M2 := by
  have h8 : 0 ≤ (A.1 8).toInt ∧ (A.1 8).toInt ≤ 90 := by
    obtain ⟨p, t, s, a1, a2, a3, b1, b2, b3, b4, b5, b6, c1, c2, c3, c4⟩ := h
    exact c3.2
  obtain ⟨o1, o2, g1, g2, M2, C, u, rfl, rfl, g3⟩ := lp_2 (b1 := b_X4_unitsUntilStopped_19 N W0) (b2 := b_X6_wayWith_47 N V0 c)
    (P := fun n s1 s2 => n ≤ 100 ∧ ∃ (V1 : St) (M1 : Md) (T1 : Nat), s1 = (V1, st, nI (100 - n)) ∧ s2 = (M1, st) ∧ RelSt T1 R V1 M1.1 ∧ Scr A (A.1, M1.2) ∧ (M1.1 9 = 1 ∨ M1.1 9 = 2) ∧ (M1.1 9 = 1 → 0 ≤ (M1.1 8).toInt ∧ (M1.1 8).toInt + 2 ≤ n))
    (Q := fun o1 o2 => ∃ (M2 : Md) (C : St) (u : Int32), o1 = (u, C) ∧ o2 = (u, M2) ∧ Sc2 M M2) (by
    rintro n s1 s2 ⟨hn, V1, M1, T1, rfl, rfl, r1, r2, r3, r4⟩
    have hk : ¬ (3000 : Int32) ≤ nI (100 - n) := nI_ge (show 100 - n < 3000 by omega) (by decide)
    have m9 := (mod r1).1
    by_cases g : M1.1 9 = 1
    · obtain ⟨w1, w2⟩ := r4 g
      obtain ⟨V2, M2', y1, y2, y3, y4, y5, y6, y7, y8⟩ := r_tick (hv := 0) hN r1 (fun q => absurd (g.symm.trans q) (by decide))
      obtain ⟨z1, z2, z3⟩ := y8 g
      refine .inr ⟨n - 1, _, _, by omega, ⟨by omega, V2, M2', T1 + 1, rfl, rfl, y3, r2.tr2 y6, z1, fun q => ?_⟩, fun K => ?_, fun K => ?_⟩
      · have h8' : 0 ≤ (M2'.1 8).toInt := by
          obtain ⟨p, t, s, a1, a2, a3, b1, b2, b3, b4, b5, b6, c1, c2, c3, c4⟩ := y3
          exact c3.2.1
        by_cases hz : M1.1 8 = 0
        · exact absurd (q.symm.trans (z2 hz)) (by decide)
        · have hz' : 0 < (M1.1 8).toInt := by
            have : (M1.1 8).toInt ≠ 0 := fun e => hz (Int32.toInt_inj.mp (by rw [e, z_0]))
            omega
          have := z3 hz'
          omega
      · unfold b_X4_unitsUntilStopped_19
        dsimp only
        rw [if_neg hk, if_pos (m9.trans g), y1, Option.bind_some, nI_1, show 100 - n + 1 = 100 - (n - 1) from by omega]
      · unfold b_X6_wayWith_47
        rw [if_pos (show (M1, st).1.1 (Int32.toNatClampNeg (9 : Int32)) = 1 from g)]
        dsimp only
        rw [y2, Option.bind_some]
    · obtain ⟨M2', x1, x2⟩ := back_sc2 hN hA r2
      have e20 : V1.2.2.2.2.2.2.2.2.2.2.2.2.2.2.2.2.1 = M1.1 20 := by
        obtain ⟨p, t, s, a1, a2, a3, b1, b2, b3, b4, b5, b6, c1, c2, c3, c4, c5, c6, c7⟩ := r1
        exact c6.2.2.2.2.1
      refine .inl ⟨(M1.1 20 - st, V1), (M1.1 20 - st, M2'), fun K => ?_, fun K => ?_, M2', V1, _, rfl, rfl, x2⟩
      · unfold b_X4_unitsUntilStopped_19 b_X4_unitsUntilStopped_45
        dsimp only
        rw [if_neg hk, if_neg (fun q => g (m9.symm.trans q)), e20]
      · unfold b_X6_wayWith_47
        rw [if_neg (show ¬ (M1, st).1.1 (Int32.toNatClampNeg (9 : Int32)) = 1 from g)]
        dsimp only
        rw [x1, Option.bind_some, c_20])
    100 N N (V, st, (0 : Int32)) (A, st) (by omega) (by omega) ⟨Nat.le_refl _, V, A, T, by rw [Nat.sub_self]; rfl, rfl, h, ⟨rfl, rfl, rfl, rfl, rfl, rfl, rfl, rfl⟩, h9, fun _ => ⟨h8.1, by omega⟩⟩
  exact ⟨u, C, M2, g1, g2, g3⟩
theorem r_way {T : Nat} {R : Ru} {Vn Vm : St} {M : Md} {N c : Nat} (hN : 5000 ≤ N) (h : RelSt T R Vn M.1) (hc : 1 ≤ c ∧ c ≤ 30) : ∃ (u : Int32) (C : St) (M2 : Md), f_X5_wayWith N Vn Vm (nI c) = some (u, C) ∧ f_X6_wayWith N M (nI c) = some (u, M2) ∧ Sc2 M M2 := by
  obtain ⟨C0, hC, hC2⟩ : ∃ C0, f_X4_copy Vm Vn = some C0 ∧ RelSt T R C0 M.1 := by
    obtain ⟨C0, hC, -⟩ := copy_ok Vm Vn
    exact ⟨C0, hC, (h.copy hC).1⟩
  have h2 : RelSt T R (upd C0.1 2 (nI c), C0.2) (upd M.1 2 (nI c)) := RelSt.set hC2 (j := 2) (by decide) (show ¬ nI c < (1 : Int32) from nI_nlt (show 1 ≤ c by omega) (by omega)) (show nI c ≤ (30 : Int32) from nI_le (show c ≤ 30 by omega) (by decide))
  have e9 : upd M.1 2 (nI c) 9 = M.1 9 := upd_n (by decide)
  have e20 : C0.2.2.2.2.2.2.2.2.2.2.2.2.2.2.2.2.1 = M.1 20 := by
    obtain ⟨p, t, s, a1, a2, a3, b1, b2, b3, b4, b5, b6, c1, c2, c3, c4, c5, c6, c7⟩ := hC2
    exact c6.2.2.2.2.1
  have m9 : C0.2.2.2.2.2.2.2.2.2.1 = M.1 9 := (mod hC2).1
  have cls : ∀ u C, f_X4_unitsUntilStopped N (upd C0.1 2 (nI c), C0.2) = some (u, C) → f_X5_wayWith N Vn Vm (nI c) = some (u, C) := by
    intro u C hu
    unfold f_X5_wayWith
    rw [hC, Option.bind_some, c_2]
    exact congrArg (fun y => Option.bind y (fun o3 => some (o3.1, o3.2))) hu
  by_cases g : M.1 9 = 0
  · obtain ⟨u, C, M2, x1, x2, x3⟩ := r_units (W0 := (upd C0.1 2 (nI c), C0.2)) (A := (upd (upd M.1 2 (nI c)) 9 1, M.2.1, M.2.2.1, M.2.2.2.1, M.2.2.2.2.1, cpf M.2.2.2.2.2.1 M.1 0 0 173, M.2.2.2.2.2.2)) (M := M) (c := nI c) hN (RelSt.mode1 h2) rfl M (M.1 20) (.inl (show upd (upd M.1 2 (nI c)) 9 1 9 = 1 from upd_e rfl))
    refine ⟨u, C, M2, cls u C ?_, ?_, x3⟩
    · unfold f_X4_unitsUntilStopped b_X4_unitsUntilStopped_17
      refine (if_pos (show C0.2.2.2.2.2.2.2.2.2.1 = 0 from m9.trans g)).trans ?_
      rw [← e20] at x1
      exact x1
    · unfold f_X6_wayWith
      rw [q_putAside hN, Option.bind_some]
      refine (if_pos (show upd M.1 2 (nI c) 9 = 0 from e9.trans g)).trans ?_
      show ix (9 : Int32) 173 (lp (b_X6_wayWith_47 N M (nI c)) N ((upd (upd M.1 2 (nI c)) 9 1, M.2.1, M.2.2.1, M.2.2.2.1, M.2.2.2.2.1, cpf M.2.2.2.2.2.1 M.1 0 0 173, M.2.2.2.2.2.2), upd (upd M.1 2 (nI c)) 9 1 20)) = _
      rw [ix_of (show (9 : Int32) = nI 9 from rfl) (by decide) (by decide), upd_n (show 20 ≠ 9 by decide), upd_n (show 20 ≠ 2 by decide)]
      exact x2
  · obtain ⟨u, C, M2, x1, x2, x3⟩ := r_units (W0 := (upd C0.1 2 (nI c), C0.2)) (A := (upd M.1 2 (nI c), M.2.1, M.2.2.1, M.2.2.2.1, M.2.2.2.2.1, cpf M.2.2.2.2.2.1 M.1 0 0 173, M.2.2.2.2.2.2)) (M := M) (c := nI c) hN h2 rfl M (M.1 20) (by
      show upd M.1 2 (nI c) 9 = 1 ∨ upd M.1 2 (nI c) 9 = 2
      rw [e9]; exact (mod h).2.1.resolve_left g)
    have ez : upd (upd M.1 2 (nI c)) 9 (upd M.1 2 (nI c) 9) = upd M.1 2 (nI c) := by
      funext x
      by_cases hx : x = 9
      · subst hx; rw [upd_e rfl]
      · rw [upd_n hx]
    refine ⟨u, C, M2, cls u C ?_, ?_, x3⟩
    · unfold f_X4_unitsUntilStopped b_X4_unitsUntilStopped_17
      refine (if_neg (show ¬ C0.2.2.2.2.2.2.2.2.2.1 = 0 from fun q => g (m9.symm.trans q))).trans ?_
      rw [← e20] at x1
      exact x1
    · unfold f_X6_wayWith
      rw [q_putAside hN, Option.bind_some]
      refine (if_neg (show ¬ upd M.1 2 (nI c) 9 = 0 from fun q => g (e9.symm.trans q))).trans ?_
      show ix (9 : Int32) 173 (lp (b_X6_wayWith_47 N M (nI c)) N ((upd (upd M.1 2 (nI c)) 9 (upd M.1 2 (nI c) 9), M.2.1, M.2.2.1, M.2.2.2.1, M.2.2.2.2.1, cpf M.2.2.2.2.2.1 M.1 0 0 173, M.2.2.2.2.2.2), upd (upd M.1 2 (nI c)) 9 (upd M.1 2 (nI c) 9) 20)) = _
      rw [ix_of (show (9 : Int32) = nI 9 from rfl) (by decide) (by decide), ez, upd_n (show 20 ≠ 2 by decide)]
      exact x2
theorem st_way {ρ : Nat → Ru} {RS : Nat → Prop} {Vp : Pd} {Vd : Rd} {Vn : St} {Vm : St} {Vh : Hb} {Vk0 : St} {Vk1 : St} {Vk2 : St} {Vk3 : St} {Vk4 : St} {Vk5 : St} {Vs0 : St} {Vs1 : St} {Vz : Fn} {M : Md} {N : Nat} (hN : 5000 ≤ N) (H : RelS ρ RS (Vp, Vd, Vn, Vm, Vh, Vk0, Vk1, Vk2, Vk3, Vk4, Vk5, Vs0, Vs1, Vz) M) : ∃ (o1 : Int32 × St) (o2 : Int32 × Md), f_X5_way N Vn Vm = some o1 ∧ f_X6_way N M = some o2 ∧ o1.1 = o2.1 ∧ RelS ρ RS (Vp, Vd, Vn, o1.2, Vh, Vk0, Vk1, Vk2, Vk3, Vk4, Vk5, Vs0, Vs1, Vz) o2.2 := by
  obtain ⟨hn, hh, hs, hp⟩ := RelS_iff.mp H
  have h2 : ∃ c : Nat, (1 ≤ c ∧ c ≤ 30) ∧ Vn.1 2 = nI c ∧ M.1 2 = nI c := by
    obtain ⟨p, t, s, a1, a2, a3, b1, b2, b3, b4, b5, b6, c1, c2, c3, c4⟩ := hn.1
    obtain ⟨q0, q1, q2, q3, q4, q5, q6⟩ := c2
    obtain ⟨c0, hc0, ec0⟩ := nI_of2 (x := M.1 2) (M := 30) (n := 30) z_30 (by rw [z_lt, z_0]; omega) (by rw [z_le, z_30]; omega)
    have hc1 : 1 ≤ c0 := by rw [ec0, z_n (by omega)] at q4; omega
    exact ⟨c0, ⟨hc1, hc0⟩, (c1 2 (by omega)).trans ec0, ec0⟩
  obtain ⟨c, hc, e1, e2⟩ := h2
  obtain ⟨u, C, M2, x1, x2, x3⟩ := r_way (Vm := Vm) hN hn.1 hc
  unfold f_X5_way f_X6_way
  rw [c_2, e1, e2, x1, x2]
  exact ⟨_, _, rfl, rfl, rfl, H.sc2 x3⟩
