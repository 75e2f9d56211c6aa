theorem RelSt.mode0 {T : Nat} {R : Ru} {V : St} {z : Fn} (h : RelSt T R V z) : RelSt T R (V.1, V.2.1, V.2.2.1, V.2.2.2.1, V.2.2.2.2.1, V.2.2.2.2.2.1, V.2.2.2.2.2.2.1, V.2.2.2.2.2.2.2.1, V.2.2.2.2.2.2.2.2.1, (0 : Int32), V.2.2.2.2.2.2.2.2.2.2) (upd z 9 0) := by
  obtain ⟨p, t, s, a1, a2, a3, b1, b2, b3, b4, b5, b6, c1, c2, c3, c4, c5, c6, c7, c8, n, hn, hs⟩ := h
  have e : ∀ k, k ≠ 9 → upd z 9 0 k = z k := fun k hk => upd_n hk
  refine ⟨p, t, s, a1, a2, a3, b1, (e 10 (by omega)).trans b2, b3, (e 7 (by omega)).trans b4, b5, (e 11 (by omega)).trans b6, fun j hj => (c1 j hj).trans (e j (by omega)).symm, ?_, ?_, ⟨(upd_e rfl).symm, .inl (upd_e rfl), fun h => absurd ((upd_e rfl).symm.trans h) (by decide)⟩, fun j hj => (c5 j hj).trans (e _ (by omega)).symm, ?_, ?_, fun j hj => (c8 j hj).trans (e _ (by omega)).symm, n, (e 22 (by omega)).trans hn, ?_⟩
  · rw [e 0 (by omega), e 1 (by omega), e 2 (by omega), e 3 (by omega), e 4 (by omega), e 5 (by omega), e 6 (by omega)]; exact c2
  · rw [e 8 (by omega)]; exact c3
  · rw [e 16 (by omega), e 17 (by omega), e 18 (by omega), e 19 (by omega), e 20 (by omega), e 21 (by omega)]; exact c6
  · intro i hi
    have := c7 i hi
    rw [e (83 + 3 * i) (by omega), e (84 + 3 * i) (by omega), e (85 + 3 * i) (by omega)]
    exact this
  · obtain ⟨h1, h2, h3⟩ := hs
    refine ⟨h1, h2, fun N hN M hM hT => h3 N hN M hM (fun k hk => (hT k hk).trans (e _ (by omega)))⟩
theorem st_restart {ρ : Nat → Ru} {RS : Nat → Prop} {Vp : Pd} {Vd : Rd} {Vn : St} {Vm : St} {Vh : Hb} {Vk0 : St} {Vk1 : St} {Vk2 : St} {Vk3 : St} {Vk4 : St} {Vk5 : St} {Vs0 : St} {Vs1 : St} {Vz : Fn} {M : Md} {N : Nat} (hN : 5000 ≤ N) (H : RelS ρ RS (Vp, Vd, Vn, Vm, Vh, Vk0, Vk1, Vk2, Vk3, Vk4, Vk5, Vs0, Vs1, Vz) M) : ∃ (o1 : Int32 × St × Hb × St × St × St × St × St × St) (o2 : Int32 × Md), f_X5_restart N Vn Vh Vk0 Vk1 Vk2 Vk3 Vk4 Vk5 (ρ Vn.2.2.2.2.2.2.1) = some o1 ∧ f_X6_restart N M = some o2 ∧ o1.1 = o2.1 ∧ RelS ρ RS (Vp, Vd, o1.2.1, Vm, o1.2.2.1, o1.2.2.2.1, o1.2.2.2.2.1, o1.2.2.2.2.2.1, o1.2.2.2.2.2.2.1, o1.2.2.2.2.2.2.2.1, o1.2.2.2.2.2.2.2.2, Vs0, Vs1, Vz) o2.2 := by
  obtain ⟨hn, hh, hs, hp⟩ := RelS_iff.mp H
  unfold f_X5_restart f_X6_restart b_X5_restart_21 b_X6_restart_18
  rw [c_9, (mod hn.1).1]
  by_cases h2 : M.1 9 = 2
  · rw [if_pos h2, if_pos h2]
    obtain ⟨hv, M2, w1, w2, w3, w4⟩ := rh hN hn.1
    rw [w1, w2]
    simp only [Option.bind_some]
    have H2 := H.scr w3
    by_cases hz : hv = 0
    · obtain ⟨o, P, c, f1, f2, f3⟩ := r_record hN H2
      obtain ⟨hn2, hh2, hs2, hp2⟩ := RelS_iff.mp H2
      rw [if_pos hz, if_pos hz, f1, f2, c_10]
      simp only [Option.bind_some]
      obtain ⟨p, hp20, e1, e2⟩ := ppl hn2.1
      refine ⟨_, _, rfl, rfl, ?_, RelS_iff.mpr ⟨⟨RelSt.mode0 hn2.1, hn2.2⟩, f3, hs2, hp2⟩⟩
      show Vn.2.2.2.2.2.2.2.1 = upd M2.1 9 0 10
      rw [upd_n (by decide), e1, e2]
    · rw [if_neg hz, if_neg hz]
      exact ⟨_, _, rfl, rfl, rfl, H2⟩
  · rw [if_neg h2, if_neg h2]
    exact ⟨_, _, rfl, rfl, rfl, H⟩
theorem st_of {ρ : Nat → Ru} {RS : Nat → Prop} {Vp : Pd} {Vd : Rd} {Vn : St} {Vm : St} {Vh : Hb} {Vk0 : St} {Vk1 : St} {Vk2 : St} {Vk3 : St} {Vk4 : St} {Vk5 : St} {Vs0 : St} {Vs1 : St} {Vz : Fn} {M : Md} {N : Nat} (hN : 5000 ≤ N) (H : RelS ρ RS (Vp, Vd, Vn, Vm, Vh, Vk0, Vk1, Vk2, Vk3, Vk4, Vk5, Vs0, Vs1, Vz) M) (p0 : Int32) (p1 : Int32) : ∃ (o1 : Int32) (o2 : Int32), f_X5_of Vn p0 p1 = some o1 ∧ f_X6_of M p0 p1 = some o2 ∧ o1 = o2 ∧ RelS ρ RS (Vp, Vd, Vn, Vm, Vh, Vk0, Vk1, Vk2, Vk3, Vk4, Vk5, Vs0, Vs1, Vz) M := by
  obtain ⟨hn, hh, hs, hp⟩ := RelS_iff.mp H
  obtain ⟨p, hp20, e1, e2⟩ := ppl hn.1
  obtain ⟨t, ht, et1, et2⟩ := tim hn.1
  unfold f_X5_of f_X6_of b_X5_of_21 b_X6_of_15 f_X6_placeOf f_X6_weight
  rw [e1, c_10, e2]
  rcases pk_ix p0 (n := p) (by omega) with hlt | hge | ⟨i, hi, rfl⟩
  · rw [if_pos hlt, if_pos hlt]; exact ⟨_, _, rfl, rfl, rfl, H⟩
  · rw [if_neg (nn hge (by omega)).1, if_neg (nn hge (by omega)).1, if_pos hge, if_neg (nn hge (by omega)).2]
    exact ⟨_, _, rfl, rfl, rfl, H⟩
  rw [if_neg (nI_pos (by omega)), if_neg (nI_pos (by omega)), if_neg (nI_ge hi (by omega)), if_pos (show nI i < (20 : Int32) from nI_lt (show i < 20 by omega) (by decide)), if_pos (nI_lt hi (by omega))]
  have hq : (83 : Int32) + 3 * nI i = nI (83 + 3 * i) := by rw [show (3 : Int32) = nI 3 from rfl, pk_mul, show (83 : Int32) = nI 83 from rfl, nI_add]
  have hq1 : nI (83 + 3 * i) + (1 : Int32) = nI (84 + 3 * i) := by rw [nI_1, show 83 + 3 * i + 1 = 84 + 3 * i from by omega]
  have hq2 : nI (83 + 3 * i) + (2 : Int32) = nI (85 + 3 * i) := by rw [show (2 : Int32) = nI 2 from rfl, nI_add, show 83 + 3 * i + 2 = 85 + 3 * i from by omega]
  obtain ⟨p', t', s, a1, a2, a3, b1, b2, b3, b4, b5, b6, c1, c2, c3, c4, c5, c6, c7, c8⟩ := hn.1
  obtain rfl : p' = p := (nI_eq (by omega) (by omega)).mp (b2.symm.trans e2)
  obtain ⟨w1, w2, w3, -⟩ := c7 i hi
  rw [hq, hq1, hq2, ix_nI (show i < 20 by omega) (by decide), ix_nI (show i < 20 by omega) (by decide), ix_nI (show i < 20 by omega) (by decide), ix_nI (show 84 + 3 * i < 173 by omega) (by decide), ix_nI (show 83 + 3 * i < 173 by omega) (by decide), ix_nI (show 85 + 3 * i < 173 by omega) (by decide), cl i (by omega), cl (83 + 3 * i) (by omega), cl (84 + 3 * i) (by omega), cl (85 + 3 * i) (by omega), c_7, w1, w2.1, w3, et1, et2]
  by_cases q0 : p1 = 0
  · rw [if_pos q0, if_pos q0]; exact ⟨_, _, rfl, rfl, rfl, H⟩
  rw [if_neg q0, if_neg q0]
  by_cases q1 : p1 = 1
  · rw [if_pos q1, if_pos q1]; exact ⟨_, _, rfl, rfl, rfl, H⟩
  rw [if_neg q1, if_neg q1]
  by_cases q2 : p1 = 2
  · rw [if_pos q2]; exact ⟨_, _, rfl, rfl, rfl, H⟩
  rw [if_neg q2]; exact ⟨_, _, rfl, rfl, rfl, H⟩
theorem st_ofSpot {ρ : Nat → Ru} {RS : Nat → Prop} {Vp : Pd} {Vd : Rd} {Vn : St} {Vm : St} {Vh : Hb} {Vk0 : St} {Vk1 : St} {Vk2 : St} {Vk3 : St} {Vk4 : St} {Vk5 : St} {Vs0 : St} {Vs1 : St} {Vz : Fn} {M : Md} {N : Nat} (hN : 5000 ≤ N) (H : RelS ρ RS (Vp, Vd, Vn, Vm, Vh, Vk0, Vk1, Vk2, Vk3, Vk4, Vk5, Vs0, Vs1, Vz) M) (p0 : Int32) (p1 : Int32) : ∃ (o1 : Int32) (o2 : Int32), f_X5_ofSpot Vn p0 p1 = some o1 ∧ f_X6_ofSpot M p0 p1 = some o2 ∧ o1 = o2 ∧ RelS ρ RS (Vp, Vd, Vn, Vm, Vh, Vk0, Vk1, Vk2, Vk3, Vk4, Vk5, Vs0, Vs1, Vz) M := by
  obtain ⟨hn, hh, hs, hp⟩ := RelS_iff.mp H
  obtain ⟨s, hs6, e1, e2⟩ := sns hn.1
  unfold f_X5_ofSpot f_X6_ofSpot b_X5_ofSpot_9 b_X6_ofSpot_53 f_X6_isSpot f_X4_complains
  rcases pk_ix p0 (n := 4) (by decide) with hlt | hge | ⟨i, hi, rfl⟩
  · rw [if_pos hlt, in_0 (.inl hlt)]; exact ⟨_, -1, rfl, rfl, rfl, H⟩
  · rw [if_neg (nn hge (by decide)).1, if_neg (show ¬ p0 < (4 : Int32) from (nn hge (by decide)).2), in_0 (.inr (show (3 : Int32) < p0 from gt_of (n := 3) hge (by decide)))]
    exact ⟨_, -1, rfl, rfl, rfl, H⟩
  rw [if_neg (nI_pos (by omega)), if_pos (show nI i < (4 : Int32) from nI_lt hi (by decide)), in_1 (nI_pos (by omega)) (show ¬ (3 : Int32) < nI i from nI_nlt (show i ≤ 3 by omega) (by decide)), e1, c_11, e2]
  simp only [Option.bind_some]
  rw [zb_ok (.inr rfl)]
  simp only [Option.bind_some]
  rw [if_neg (show ¬ (1 : Int32) = 0 by decide)]
  obtain ⟨p', t', s', a1, a2, a3, b1, b2, b3, b4, b5, b6, c1, c2, c3, c4, c5, c6, c7, c8⟩ := hn.1
  have hq : (12 : Int32) + nI i = nI (12 + i) := nI_add 12 i
  by_cases q0 : p1 = 0
  · subst q0
    rw [if_pos rfl, in_1 (show ¬ (0 : Int32) < 0 by decide) (show ¬ (2 : Int32) < 0 by decide)]
    simp only [Option.bind_some]
    rw [if_neg (show ¬ (1 : Int32) = 0 by decide), if_neg (show ¬ (0 : Int32) = 2 by decide)]
    exact ⟨_, _, rfl, rfl, rfl, H⟩
  rw [if_neg q0]
  by_cases q1 : p1 = 1
  · subst q1
    rw [if_pos rfl, in_1 (show ¬ (1 : Int32) < 0 by decide) (show ¬ (2 : Int32) < 1 by decide)]
    simp only [Option.bind_some]
    rw [if_neg (show ¬ (1 : Int32) = 0 by decide), if_neg (show ¬ (1 : Int32) = 2 by decide)]
    exact ⟨_, _, rfl, rfl, rfl, H⟩
  rw [if_neg q1]
  by_cases q2 : p1 = 2
  · subst q2
    rw [if_pos rfl, in_1 (show ¬ (2 : Int32) < 0 by decide) (show ¬ (2 : Int32) < 2 by decide), ix_nI hi (by decide), cl i (by omega), c5 i hi]
    simp only [Option.bind_some]
    rw [if_neg (show ¬ (1 : Int32) = 0 by decide), if_pos trivial, hq, ix_nI (show 12 + i < 173 by omega) (by decide), cl (12 + i) (by omega)]
    exact ⟨_, _, rfl, rfl, rfl, H⟩
  rw [if_neg q2]
  have hz : f_X6_in p1 0 2 = some 0 := by
    rcases pk_ix p1 (n := 3) (by decide) with hlt | hge | ⟨b, hb, rfl⟩
    · exact in_0 (.inl hlt)
    · exact in_0 (.inr (show (2 : Int32) < p1 from gt_of (n := 2) hge (by decide)))
    · have : b = 0 ∨ b = 1 ∨ b = 2 := by omega
      rcases this with rfl | rfl | rfl
      · exact absurd rfl q0
      · exact absurd rfl q1
      · exact absurd rfl q2
  rw [hz]
  exact ⟨_, -2, rfl, rfl, rfl, H⟩
theorem st_ofStop {ρ : Nat → Ru} {RS : Nat → Prop} {Vp : Pd} {Vd : Rd} {Vn : St} {Vm : St} {Vh : Hb} {Vk0 : St} {Vk1 : St} {Vk2 : St} {Vk3 : St} {Vk4 : St} {Vk5 : St} {Vs0 : St} {Vs1 : St} {Vz : Fn} {M : Md} {N : Nat} (hN : 5000 ≤ N) (H : RelS ρ RS (Vp, Vd, Vn, Vm, Vh, Vk0, Vk1, Vk2, Vk3, Vk4, Vk5, Vs0, Vs1, Vz) M) (p0 : Int32) (p1 : Int32) : ∃ (o1 : Int32) (o2 : Int32), f_X5_ofStop Vn p0 p1 = some o1 ∧ f_X6_ofStop M p0 p1 = some o2 ∧ o1 = o2 ∧ RelS ρ RS (Vp, Vd, Vn, Vm, Vh, Vk0, Vk1, Vk2, Vk3, Vk4, Vk5, Vs0, Vs1, Vz) M := by
  obtain ⟨hn, hh, hs, hp⟩ := RelS_iff.mp H
  obtain ⟨p', t', s', a1, a2, a3, b1, b2, b3, b4, b5, b6, c1, c2, c3, c4, c5, c6, c7, c8, -⟩ := hn.1
  obtain ⟨d1, d2, d3, d4, d5, d6⟩ := c6
  have key : ∀ m : Int32, (m = if (6 : Int32) ≤ M.1 19 then 6 else M.1 19) → f_X6_ofStop M p0 p1 = b_X6_ofStop_24 M p0 p1 m := by
    rintro m rfl
    unfold f_X6_ofStop
    rw [c_19]
    by_cases h6 : (6 : Int32) ≤ M.1 19
    · rw [if_pos h6, if_pos h6]
    · rw [if_neg h6, if_neg h6]
  obtain ⟨m, hm⟩ : ∃ m : Int32, m = if (6 : Int32) ≤ M.1 19 then 6 else M.1 19 := ⟨_, rfl⟩
  rw [key m hm]
  unfold f_X5_ofStop b_X6_ofStop_24 b_X5_ofStop_21 b_X5_ofStop_32 b_X6_ofStop_34 b_X6_ofStop_64
  rw [d4]
  by_cases h0 : p0 < 0
  · rw [if_pos h0, if_pos h0]; exact ⟨_, _, rfl, rfl, rfl, H⟩
  rw [if_neg h0, if_neg h0]
  have hcond : p0 < m ↔ ¬ M.1 19 ≤ p0 ∧ p0 < 6 := by
    rw [hm]
    simp only [z_lt, z_le, z_6]
    by_cases h6 : (6 : Int) ≤ (M.1 19).toInt
    · rw [if_pos h6, z_6]; omega
    · rw [if_neg h6]; omega
  by_cases h1 : M.1 19 ≤ p0
  · rw [if_pos h1, if_neg (fun e => (hcond.mp e).1 h1)]; exact ⟨_, _, rfl, rfl, rfl, H⟩
  rw [if_neg h1]
  by_cases h2 : p0 < 6
  · rw [if_pos h2, if_pos (hcond.mpr ⟨h1, h2⟩)]
    obtain ⟨i, hi, rfl⟩ : ∃ i, i < 6 ∧ p0 = nI i := by
      rcases pk_ix p0 (n := 6) (by decide) with hlt | hge | h
      · exact absurd hlt h0
      · exact absurd h2 (nn hge (by decide)).2
      · exact h
    rcases pk_ix p1 (n := 5) (by decide) with hlt | hge | ⟨b, hb, rfl⟩
    · rw [if_pos hlt, in_0 (.inl hlt)]; exact ⟨_, -2, rfl, rfl, rfl, H⟩
    · rw [if_neg (nn hge (by decide)).1, if_neg (show ¬ p1 < (5 : Int32) from (nn hge (by decide)).2), in_0 (.inr (show (4 : Int32) < p1 from gt_of (n := 4) hge (by decide)))]
      exact ⟨_, -2, rfl, rfl, rfl, H⟩
    have hq : nI i * (5 : Int32) + nI b = nI (i * 5 + b) := by rw [show (5 : Int32) = nI 5 from rfl, pk_mul, nI_add]
    have hr : (143 : Int32) + (5 : Int32) * nI i + nI b = nI (143 + (i * 5 + b)) := by rw [show (5 : Int32) = nI 5 from rfl, pk_mul, show (143 : Int32) = nI 143 from rfl, nI_add, nI_add, show 143 + 5 * i + b = 143 + (i * 5 + b) from by omega]
    rw [if_neg (nI_pos (by omega)), if_pos (show nI b < (5 : Int32) from nI_lt hb (by decide)), in_1 (nI_pos (by omega)) (show ¬ (4 : Int32) < nI b from nI_nlt (show b ≤ 4 by omega) (by decide)), hq, hr, ix_nI (show i * 5 + b < 30 by omega) (by decide), cl _ (show i * 5 + b < 2 ^ 31 by omega), c8 _ (show i * 5 + b < 30 by omega)]
    simp only [Option.bind_some]
    rw [if_neg (show ¬ (1 : Int32) = 0 by decide), ix_nI (show 143 + (i * 5 + b) < 173 by omega) (by decide), cl _ (show 143 + (i * 5 + b) < 2 ^ 31 by omega)]
    exact ⟨_, _, rfl, rfl, rfl, H⟩
  · rw [if_neg h2, if_neg (fun e => h2 (hcond.mp e).2)]; exact ⟨_, _, rfl, rfl, rfl, H⟩
theorem sav_set {ρ : Nat → Ru} {RS : Nat → Prop} {Z : Fn} {W W' : Nat → St} {B P z : Fn} {b : Nat} {Vn C : St} (hb : b < 2) (H : SavR ρ RS Z W B P) (hn : NowR ρ RS Vn z) (hC : RelSt 99999 (ρ Vn.2.2.2.2.2.2.1) C z ∧ C.2.2.2.2.2.2 = Vn.2.2.2.2.2.2) (hW : ∀ k, k < 2 → W' k = if k = b then C else W k) :
    SavR ρ RS (upd Z b 1) W' (upd B b 1) (cpf P z (b * 173) 0 173) := by
  intro k hk
  rw [hW k hk]
  by_cases e : k = b
  · subst e
    rw [if_pos rfl, upd_e rfl, upd_e rfl, hC.2]
    refine .inr ⟨rfl, rfl, hC.1.cells fun x hx => ?_, hn.2⟩
    show cpf P z (k * 173) 0 173 (k * 173 + x) = z x
    rw [cpf_in (by omega) (by omega)]
    congr 1
    omega
  · rw [if_neg e, upd_n e, upd_n e]
    rcases H k hk with h | ⟨h1, h2, h3, h4⟩
    · exact .inl h
    · refine .inr ⟨h1, h2, h3.cells fun x hx => ?_, h4⟩
      show cpf P z (b * 173) 0 173 (k * 173 + x) = P (k * 173 + x)
      rw [cpf_out (by omega)]
theorem st_save {ρ : Nat → Ru} {RS : Nat → Prop} {Vp : Pd} {Vd : Rd} {Vn : St} {Vm : St} {Vh : Hb} {Vk0 : St} {Vk1 : St} {Vk2 : St} {Vk3 : St} {Vk4 : St} {Vk5 : St} {Vs0 : St} {Vs1 : St} {Vz : Fn} {M : Md} {N : Nat} (hN : 5000 ≤ N) (H : RelS ρ RS (Vp, Vd, Vn, Vm, Vh, Vk0, Vk1, Vk2, Vk3, Vk4, Vk5, Vs0, Vs1, Vz) M) (p0 : Int32) : ∃ (o1 : Int32 × St × St × Fn) (o2 : Int32 × Md), f_X5_save Vn Vs0 Vs1 Vz p0 = some o1 ∧ f_X6_save N M p0 = some o2 ∧ o1.1 = o2.1 ∧ RelS ρ RS (Vp, Vd, Vn, Vm, Vh, Vk0, Vk1, Vk2, Vk3, Vk4, Vk5, o1.2.1, o1.2.2.1, o1.2.2.2) o2.2 := by
  obtain ⟨hn, hh, hs, hp⟩ := RelS_iff.mp H
  unfold f_X5_save f_X6_save b_X5_save_9
  rcases pk_ix p0 (n := 2) (by decide) with hlt | hge | ⟨b, hb, rfl⟩
  · rw [if_pos hlt, in_0 (.inl hlt)]; exact ⟨_, (-2, M), rfl, rfl, rfl, H⟩
  · rw [if_neg (nn hge (by decide)).1, if_neg (show ¬ p0 < (2 : Int32) from (nn hge (by decide)).2), in_0 (.inr (show (1 : Int32) < p0 from gt_of (n := 1) hge (by decide)))]
    exact ⟨_, (-2, M), rfl, rfl, rfl, H⟩
  have hv : vp_nar .boolean (1 : Int32) = 1 := by decide
  rw [if_neg (nI_pos (by omega)), if_pos (show nI b < (2 : Int32) from nI_lt hb (by decide)), in_1 (nI_pos (by omega)) (show ¬ (1 : Int32) < nI b from nI_nlt (show b ≤ 1 by omega) (by decide)), hv, cl b (by omega)]
  simp only [Option.bind_some]
  rw [if_neg (show ¬ (1 : Int32) = 0 by decide), q_save21 hN _ _ hb, ix_nI hb (by decide)]
  obtain ⟨p, hp20, e1, e2⟩ := ppl hn.1
  have hbb : b = 0 ∨ b = 1 := by omega
  rcases hbb with rfl | rfl
  · obtain ⟨C, hC, -⟩ := copy_ok Vs0 Vn
    rw [if_pos (show nI 0 = (0 : Int32) from rfl), hC]
    simp only [Option.bind_some]
    rw [ix_nI hb (by decide)]
    exact ⟨_, _, rfl, rfl, e1.trans e2.symm, RelS_iff.mpr ⟨hn, hh, sav_set hb hs hn (hn.1.copy hC) (fun k hk => by
      have hkk : k = 0 ∨ k = 1 := by omega
      rcases hkk with rfl | rfl <;> rfl), hp⟩⟩
  · obtain ⟨C, hC, -⟩ := copy_ok Vs1 Vn
    rw [if_neg (show ¬ nI 1 = (0 : Int32) by decide), if_pos (show nI 1 = (1 : Int32) from rfl), hC]
    simp only [Option.bind_some]
    rw [ix_nI hb (by decide)]
    exact ⟨_, _, rfl, rfl, e1.trans e2.symm, RelS_iff.mpr ⟨hn, hh, sav_set hb hs hn (hn.1.copy hC) (fun k hk => by
      have hkk : k = 0 ∨ k = 1 := by omega
      rcases hkk with rfl | rfl <;> rfl), hp⟩⟩
theorem st_restore {ρ : Nat → Ru} {RS : Nat → Prop} {Vp : Pd} {Vd : Rd} {Vn : St} {Vm : St} {Vh : Hb} {Vk0 : St} {Vk1 : St} {Vk2 : St} {Vk3 : St} {Vk4 : St} {Vk5 : St} {Vs0 : St} {Vs1 : St} {Vz : Fn} {M : Md} {N : Nat} (hN : 5000 ≤ N) (H : RelS ρ RS (Vp, Vd, Vn, Vm, Vh, Vk0, Vk1, Vk2, Vk3, Vk4, Vk5, Vs0, Vs1, Vz) M) (p0 : Int32) : ∃ (o1 : Int32 × St × Hb × St × St × St × St × St × St) (o2 : Int32 × Md), f_X5_restore Vn Vh Vk0 Vk1 Vk2 Vk3 Vk4 Vk5 Vs0 Vs1 Vz p0 = some o1 ∧ f_X6_restore N M p0 = some o2 ∧ o1.1 = o2.1 ∧ RelS ρ RS (Vp, Vd, o1.2.1, Vm, o1.2.2.1, o1.2.2.2.1, o1.2.2.2.2.1, o1.2.2.2.2.2.1, o1.2.2.2.2.2.2.1, o1.2.2.2.2.2.2.2.1, o1.2.2.2.2.2.2.2.2, Vs0, Vs1, Vz) o2.2 := by
  obtain ⟨hn, hh, hs, hp⟩ := RelS_iff.mp H
  unfold f_X5_restore f_X6_restore b_X5_restore_9
  rcases pk_ix p0 (n := 2) (by decide) with hlt | hge | ⟨b, hb, rfl⟩
  · rw [if_pos hlt, in_0 (.inl hlt)]; exact ⟨_, (-2, M), rfl, rfl, rfl, H⟩
  · rw [if_neg (nn hge (by decide)).1, if_neg (show ¬ p0 < (2 : Int32) from (nn hge (by decide)).2), in_0 (.inr (show (1 : Int32) < p0 from gt_of (n := 1) hge (by decide)))]
    exact ⟨_, (-2, M), rfl, rfl, rfl, H⟩
  rw [if_neg (nI_pos (by omega)), if_pos (show nI b < (2 : Int32) from nI_lt hb (by decide)), in_1 (nI_pos (by omega)) (show ¬ (1 : Int32) < nI b from nI_nlt (show b ≤ 1 by omega) (by decide)), cl b (by omega), ix_nI hb (by decide)]
  simp only [Option.bind_some]
  rw [if_neg (show ¬ (1 : Int32) = 0 by decide), ix_nI hb (by decide)]
  rcases hs b hb with ⟨z1, z2⟩ | ⟨z1, z2, z3, z4⟩
  · rw [if_pos z1, if_pos z2]; exact ⟨_, _, rfl, rfl, rfl, H⟩
  rw [if_neg (show ¬ Vz b = 0 from fun e => absurd (z1.symm.trans e) (by decide)), if_neg (show ¬ M.2.2.2.1 b = 0 from fun e => absurd (z2.symm.trans e) (by decide))]
  obtain ⟨o, P, c, f1, f2, f3⟩ := r_record hN H
  rw [f1, f2]
  simp only [Option.bind_some]
  rw [q_restore30 hN _ _ hb]
  have fin : ∀ (D S C : St), f_X4_copy D S = some C → RelSt 99999 (ρ S.2.2.2.2.2.2.1) S (fun x => M.2.2.1 (b * 173 + x)) → RS S.2.2.2.2.2.2.1 → C.2.2.2.2.2.2.2.1 = M.2.2.1 (b * 173 + 10) ∧ NowR ρ RS C (cpf M.1 M.2.2.1 0 (b * 173) 173) := by
    intro D S C hC h1 h2
    obtain ⟨r1, r2⟩ := h1.copy hC
    obtain ⟨p, hp20, e1, e2⟩ := ppl r1
    refine ⟨e1.trans e2.symm, ?_, ?_⟩
    · rw [r2]
      refine r1.cells fun x hx => ?_
      show cpf M.1 M.2.2.1 0 (b * 173) 173 x = M.2.2.1 (b * 173 + x)
      rw [cpf_in (by omega) (by omega)]
      congr 1
    · rw [r2]; exact h2
  have hbb : b = 0 ∨ b = 1 := by omega
  rcases hbb with rfl | rfl
  · obtain ⟨C, hC, -⟩ := copy_ok Vn Vs0
    rw [if_pos (show nI 0 = (0 : Int32) from rfl), hC]
    obtain ⟨g1, g2⟩ := fin Vn Vs0 C hC z3 z4
    exact ⟨_, _, rfl, rfl, g1, RelS_iff.mpr ⟨g2, f3, hs, hp⟩⟩
  · obtain ⟨C, hC, -⟩ := copy_ok Vn Vs1
    rw [if_neg (show ¬ nI 1 = (0 : Int32) by decide), if_pos (show nI 1 = (1 : Int32) from rfl), hC]
    obtain ⟨g1, g2⟩ := fin Vn Vs1 C hC z3 z4
    exact ⟨_, _, rfl, rfl, g1, RelS_iff.mpr ⟨g2, f3, hs, hp⟩⟩
