/-! until it is empty -/
theorem e33 {N : Nat} (hN : 5000 ≤ N) {M A B V0 : Md} {k : Nat} (hk : k < 2 ^ 31) (hA : A.2 = (M.2.1, M.2.2.1, M.2.2.2.1, M.2.2.2.2.1, cpf M.2.2.2.2.2.1 M.1 0 0 173, M.2.2.2.2.2.2)) (hB : Scr A (A.1, B.2)) : ∃ M2, b_X6_emptyIn_33 N V0 (B, nI k) = some (if k ≤ 3000 then nI k else -6, M2) ∧ Sc2 M M2 := by
  obtain ⟨M2, h1, h2⟩ := back_sc2 hN hA hB
  refine ⟨M2, ?_, h2⟩
  unfold b_X6_emptyIn_33 b_X6_emptyIn_50
  dsimp only
  rw [h1, Option.bind_some]
  by_cases g : k ≤ 3000
  · rw [if_pos (show nI k ≤ (3000 : Int32) from nI_le g (by decide)), if_pos g]
  · rw [if_neg (show ¬ nI k ≤ (3000 : Int32) from nI_ge (show 3000 < k by omega) hk), if_neg g]
theorem ref_end {T : Nat} {R : Ru} {V : St} {M A M1 V0 : Md} {N p k N2 : Nat} (hN : 5000 ≤ N) (hA : A.2 = (M.2.1, M.2.2.1, M.2.2.2.1, M.2.2.2.2.1, cpf M.2.2.2.2.2.1 M.1 0 0 173, M.2.2.2.2.2.2)) (h : RelSt T R V M1.1) (hs : Scr A (A.1, M1.2)) (h9 : M1.1 9 = 2) (h10 : M1.1 10 = nI p) (hp : 0 < p ∧ p ≤ 20) (hk : k ≤ 3001) (hN2 : 3001 - k < N2) : ∃ M2, lp (b_X6_emptyIn_6 N V0) N2 (M1, nI k) = some (-6, M2) ∧ Sc2 M M2 := by
  obtain ⟨o, g1, M2, rfl, g2⟩ := lp_m (body := b_X6_emptyIn_6 N V0) (P := fun n s => n ≤ 3001 ∧ ∃ (V1 : St) (B : Md) (T1 : Nat), s = (B, nI (3001 - n)) ∧ RelSt T1 R V1 B.1 ∧ Scr A (A.1, B.2) ∧ B.1 9 = 2 ∧ B.1 10 = nI p) (Q := fun o => ∃ M2, o = (-6, M2) ∧ Sc2 M M2) (by
    rintro n s ⟨hn, V1, B, T1, rfl, r1, r2, r3, r4⟩
    have hz : ¬ nI p ≤ 0 := nI_nle hp.1 (by omega)
    by_cases n0 : n = 0
    · subst n0
      obtain ⟨M2, x1, x2⟩ := e33 (V0 := V0) (k := 3001) hN (by decide) hA r2
      refine .inl ⟨(-6, M2), fun K => ?_, M2, rfl, x2⟩
      unfold b_X6_emptyIn_6
      rw [if_neg (show ¬ (B, nI (3001 - 0)).1.1 (Int32.toNatClampNeg (10 : Int32)) ≤ 0 from fun q => hz (r4 ▸ q)), if_pos (show (3000 : Int32) < nI (3001 - 0) by decide)]
      exact x1
    · obtain ⟨V2, M2', y1, y2, y3, y4, y5, y6, y7, y8⟩ := r_tick (hv := 0) hN r1 (fun q => absurd (r3.symm.trans q) (by decide))
      obtain ⟨z1, z2⟩ := y7 r3
      refine .inr ⟨n - 1, (M2', nI (3001 - (n - 1))), by omega, ⟨by omega, V2, M2', T1 + 1, rfl, y3, r2.tr2 y6, z1, z2.trans r4⟩, fun K => ?_⟩
      unfold b_X6_emptyIn_6
      rw [if_neg (show ¬ (B, nI (3001 - n)).1.1 (Int32.toNatClampNeg (10 : Int32)) ≤ 0 from fun q => hz (r4 ▸ q))]
      dsimp only
      rw [if_neg (show ¬ (3000 : Int32) < nI (3001 - n) from nI_nlt (show 3001 - n ≤ 3000 by omega) (by decide)), y2, Option.bind_some, nI_1, show 3001 - n + 1 = 3001 - (n - 1) from by omega])
    N2 (3001 - k) (M1, nI k) hN2 ⟨by omega, V, M1, T, by rw [show 3001 - (3001 - k) = k from by omega], h, hs, h9, h10⟩
  exact ⟨M2, g1, g2⟩
theorem r_empty {R Q : Ru} {W0 V0s : St} {M A V0 : Md} {N : Nat} {hv : Int32} {z0 : Int32} (hN : 5000 ≤ N) (hA : A.2 = (M.2.1, M.2.2.1, M.2.2.2.1, M.2.2.2.2.1, cpf M.2.2.2.2.2.1 M.1 0 0 173, M.2.2.2.2.2.2)) (hrh : ∀ (T : Nat) (V1 : St) (z : Fn), RelSt T R V1 z → z 11 = z0 → f_X4_ruleHolds N V1 R = some hv) :
    ∀ (n : Nat), n ≤ 3000 → ∀ (N1 N2 T : Nat) (V1 : St) (M1 : Md), n < N1 → n + 1 < N2 → RelSt T R V1 M1.1 → Scr A (A.1, M1.2) → M1.1 11 = z0 → ∃ (u : Int32) (C : St) (M2 : Md), lp (b_X4_ticksUntilEmpty_7 N V0s Q) N1 (V1, hv, nI (3000 - n)) = some (u, C) ∧ lp (b_X6_emptyIn_6 N V0) N2 (M1, nI (3000 - n)) = some (u, M2) ∧ Sc2 M M2 := by
  intro n
  induction n with
  | zero =>
    intro _ N1 N2 T V1 M1 h1 h2 r1 r2 r3
    obtain ⟨m1, rfl⟩ : ∃ m, N1 = m + 1 := ⟨N1 - 1, by omega⟩
    obtain ⟨m2, rfl⟩ : ∃ m, N2 = m + 1 + 1 := ⟨N2 - 2, by omega⟩
    obtain ⟨p, hp, e1, e2⟩ := ppl r1
    by_cases p0 : p = 0
    · subst p0
      obtain ⟨M2, x1, x2⟩ := e33 (V0 := V0) (k := 3000) hN (by decide) hA r2
      refine ⟨nI 3000, V1, M2, ?_, ?_, x2⟩
      · show b_X4_ticksUntilEmpty_7 N V0s Q _ _ = _
        unfold b_X4_ticksUntilEmpty_7 b_X4_ticksUntilEmpty_40 b_X4_ticksUntilEmpty_53
        rw [if_pos (show (3000 : Int32) ≤ nI (3000 - 0) by decide)]
        exact if_pos (show V1.2.2.2.2.2.2.2.1 = 0 from e1)
      · show b_X6_emptyIn_6 N V0 _ _ = _
        unfold b_X6_emptyIn_6
        refine (if_pos (show M1.1 10 ≤ 0 by rw [e2]; decide)).trans ?_
        exact x1
    · have hne : ¬ nI p = 0 := nI_ne0 (by omega) (by omega)
      have hz : ¬ nI p ≤ 0 := nI_nle (by omega) (by omega)
      obtain ⟨V2, M2', y1, y2, y3, y4, y5, y6, -⟩ := r_tick (hv := hv) hN r1 (fun _ => hrh _ _ _ r1 r3)
      obtain ⟨M2, x1, x2⟩ := e33 (V0 := V0) (k := 3001) hN (by decide) hA (r2.tr2 y6)
      refine ⟨-6, V1, M2, ?_, ?_, x2⟩
      · show b_X4_ticksUntilEmpty_7 N V0s Q _ _ = _
        unfold b_X4_ticksUntilEmpty_7 b_X4_ticksUntilEmpty_40 b_X4_ticksUntilEmpty_53
        rw [if_pos (show (3000 : Int32) ≤ nI (3000 - 0) by decide)]
        exact if_neg (show ¬ V1.2.2.2.2.2.2.2.1 = 0 from fun q => hne (e1.symm.trans q))
      · show b_X6_emptyIn_6 N V0 (lp (b_X6_emptyIn_6 N V0) (m2 + 1)) (M1, nI (3000 - 0)) = _
        unfold b_X6_emptyIn_6
        refine (if_neg (show ¬ M1.1 10 ≤ 0 by rw [e2]; exact hz)).trans ?_
        refine (if_neg (show ¬ (3000 : Int32) < nI (3000 - 0) by decide)).trans ?_
        dsimp only
        rw [y2, Option.bind_some]
        show b_X6_emptyIn_6 N V0 _ (M2', nI (3000 - 0) + 1) = _
        unfold b_X6_emptyIn_6
        dsimp only
        rw [show nI (3000 - 0) + (1 : Int32) = nI 3001 from by decide, if_pos (show (3000 : Int32) < nI 3001 by decide), ite_self]
        exact x1
  | succ n ih =>
    intro hn N1 N2 T V1 M1 h1 h2 r1 r2 r3
    obtain ⟨m1, rfl⟩ : ∃ m, N1 = m + 1 := ⟨N1 - 1, by omega⟩
    obtain ⟨m2, rfl⟩ : ∃ m, N2 = m + 1 := ⟨N2 - 1, by omega⟩
    obtain ⟨p, hp, e1, e2⟩ := ppl r1
    have hk : ¬ (3000 : Int32) ≤ nI (3000 - (n + 1)) := nI_ge (show 3000 - (n + 1) < 3000 by omega) (by decide)
    have hk2 : ¬ (3000 : Int32) < nI (3000 - (n + 1)) := nI_nlt (show 3000 - (n + 1) ≤ 3000 by omega) (by decide)
    by_cases p0 : p = 0
    · subst p0
      obtain ⟨M2, x1, x2⟩ := e33 (V0 := V0) (k := 3000 - (n + 1)) hN (by omega) hA r2
      rw [if_pos (show 3000 - (n + 1) ≤ 3000 by omega)] at x1
      refine ⟨nI (3000 - (n + 1)), V1, M2, ?_, ?_, x2⟩
      · show b_X4_ticksUntilEmpty_7 N V0s Q _ _ = _
        unfold b_X4_ticksUntilEmpty_7 b_X4_ticksUntilEmpty_40 b_X4_ticksUntilEmpty_53
        refine (if_neg hk).trans ?_
        refine (if_pos (show V1.2.2.2.2.2.2.2.1 ≤ 0 by rw [e1]; decide)).trans ?_
        exact if_pos (show V1.2.2.2.2.2.2.2.1 = 0 from e1)
      · show b_X6_emptyIn_6 N V0 _ _ = _
        unfold b_X6_emptyIn_6
        refine (if_pos (show M1.1 10 ≤ 0 by rw [e2]; decide)).trans ?_
        exact x1
    · have hne : ¬ nI p = 0 := nI_ne0 (by omega) (by omega)
      have hz : ¬ nI p ≤ 0 := nI_nle (by omega) (by omega)
      have m9 := (mod r1).1
      by_cases g : M1.1 9 = 2
      · obtain ⟨M2, x1, x2⟩ := ref_end (V0 := V0) (N2 := m2 + 1) hN hA r1 r2 g e2 ⟨by omega, hp⟩ (k := 3000 - (n + 1)) (by omega) (by omega)
        refine ⟨-6, V1, M2, ?_, x1, x2⟩
        show b_X4_ticksUntilEmpty_7 N V0s Q _ _ = _
        unfold b_X4_ticksUntilEmpty_7 b_X4_ticksUntilEmpty_40 b_X4_ticksUntilEmpty_53
        refine (if_neg hk).trans ?_
        refine (if_neg (show ¬ V1.2.2.2.2.2.2.2.1 ≤ 0 by rw [e1]; exact hz)).trans ?_
        refine (if_pos (show V1.2.2.2.2.2.2.2.2.2.1 = 2 from m9.trans g)).trans ?_
        exact if_neg (show ¬ V1.2.2.2.2.2.2.2.1 = 0 from fun q => hne (e1.symm.trans q))
      · obtain ⟨V2, M2', y1, y2, y3, y4, y5, y6, -⟩ := r_tick (hv := hv) hN r1 (fun _ => hrh _ _ _ r1 r3)
        obtain ⟨u, C, M2, x1, x2, x3⟩ := ih (by omega) m1 m2 (T + 1) V2 M2' (by omega) (by omega) y3 (r2.tr2 y6) (y5.trans r3)
        have en : nI (3000 - (n + 1)) + (1 : Int32) = nI (3000 - n) := by rw [nI_1, show 3000 - (n + 1) + 1 = 3000 - n from by omega]
        refine ⟨u, C, M2, ?_, ?_, x3⟩
        · show b_X4_ticksUntilEmpty_7 N V0s Q (lp (b_X4_ticksUntilEmpty_7 N V0s Q) m1) (V1, hv, nI (3000 - (n + 1))) = _
          rw [show b_X4_ticksUntilEmpty_7 N V0s Q (lp (b_X4_ticksUntilEmpty_7 N V0s Q) m1) (V1, hv, nI (3000 - (n + 1))) = lp (b_X4_ticksUntilEmpty_7 N V0s Q) m1 (V2, hv, nI (3000 - (n + 1)) + 1) from by
            generalize lp (b_X4_ticksUntilEmpty_7 N V0s Q) m1 = K
            unfold b_X4_ticksUntilEmpty_7
            refine (if_neg hk).trans ?_
            refine (if_neg (show ¬ V1.2.2.2.2.2.2.2.1 ≤ 0 by rw [e1]; exact hz)).trans ?_
            refine (if_neg (show ¬ V1.2.2.2.2.2.2.2.2.2.1 = 2 from fun q => g (m9.symm.trans q))).trans ?_
            dsimp only
            rw [y1, Option.bind_some], en]
          exact x1
        · show b_X6_emptyIn_6 N V0 (lp (b_X6_emptyIn_6 N V0) m2) (M1, nI (3000 - (n + 1))) = _
          rw [show b_X6_emptyIn_6 N V0 (lp (b_X6_emptyIn_6 N V0) m2) (M1, nI (3000 - (n + 1))) = lp (b_X6_emptyIn_6 N V0) m2 (M2', nI (3000 - (n + 1)) + 1) from by
            generalize lp (b_X6_emptyIn_6 N V0) m2 = K
            unfold b_X6_emptyIn_6
            refine (if_neg (show ¬ M1.1 10 ≤ 0 by rw [e2]; exact hz)).trans ?_
            refine (if_neg hk2).trans ?_
            dsimp only
            rw [y2, Option.bind_some], en]
          exact x2
theorem st_emptyIn {ρ : Nat → Ru} {RS : Nat → Prop} {Vp : Pd} {Vd : Rd} {Vn : St} {Vm : St} {Vh : Hb} {Vk0 : St} {Vk1 : St} {Vk2 : St} {Vk3 : St} {Vk4 : St} {Vk5 : St} {Vs0 : St} {Vs1 : St} {Vz : Fn} {M : Md} {N : Nat} (hN : 5000 ≤ N) (H : RelS ρ RS (Vp, Vd, Vn, Vm, Vh, Vk0, Vk1, Vk2, Vk3, Vk4, Vk5, Vs0, Vs1, Vz) M) : ∃ (o1 : Int32 × St) (o2 : Int32 × Md), f_X5_emptyIn N Vn Vm (ρ Vn.2.2.2.2.2.2.1) = some o1 ∧ f_X6_emptyIn N M = some o2 ∧ o1.1 = o2.1 ∧ RelS ρ RS (Vp, Vd, Vn, o1.2, Vh, Vk0, Vk1, Vk2, Vk3, Vk4, Vk5, Vs0, Vs1, Vz) o2.2 := by
  obtain ⟨hn, hh, hs, hp⟩ := RelS_iff.mp H
  obtain ⟨C0, hC, hC2⟩ : ∃ C0, f_X4_copy Vm Vn = some C0 ∧ RelSt 99999 (ρ Vn.2.2.2.2.2.2.1) C0 M.1 := by
    obtain ⟨C0, hC, -⟩ := copy_ok Vm Vn
    exact ⟨C0, hC, (hn.1.copy hC).1⟩
  obtain ⟨hv, M3, w1, -⟩ := rh (M := M) hN hC2
  obtain ⟨u, C, M2, x1, x2, x3⟩ := r_empty (Q := ρ Vn.2.2.2.2.2.2.1) (V0s := C0) (W0 := C0) (M := M) (A := (M.1, M.2.1, M.2.2.1, M.2.2.2.1, M.2.2.2.2.1, cpf M.2.2.2.2.2.1 M.1 0 0 173, M.2.2.2.2.2.2)) (V0 := M) (hv := hv) (z0 := M.1 11) hN rfl (fun T V1 z r e => (rh_same hC2 r e _).trans w1) 3000 (Nat.le_refl _) N N 99999 C0 (M.1, M.2.1, M.2.2.1, M.2.2.2.1, M.2.2.2.2.1, cpf M.2.2.2.2.2.1 M.1 0 0 173, M.2.2.2.2.2.2) (by omega) (by omega) hC2 ⟨rfl, rfl, rfl, rfl, rfl, rfl, rfl, rfl⟩ rfl
  rw [Nat.sub_self] at x1 x2
  unfold f_X5_emptyIn f_X6_emptyIn f_X4_ticksUntilEmpty
  rw [hC, Option.bind_some, w1, Option.bind_some, q_putAside hN, Option.bind_some]
  exact ⟨(u, C), (u, M2), congrArg (fun y : Option (Int32 × St) => Option.bind y (fun o3 : Int32 × St => some (o3.1, o3.2))) x1, x2, rfl, H.sc2 x3⟩
