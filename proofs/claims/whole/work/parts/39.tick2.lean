theorem RelSt.exact {T : Nat} {R : Ru} {V : St} {z : Fn} (h : RelSt T R V z) {t : Nat} (ht : t < 2 ^ 31) (et : z 7 = nI t) (hT : T < 2 ^ 31) : RelSt t R V z := by
  obtain ⟨p, t', s, a1, a2, a3, b1, b2, b3, b4, b5⟩ := h
  obtain rfl : t' = t := (nI_eq (by omega) ht).mp (b4.symm.trans et)
  exact ⟨p, t', s, a1, Nat.le_refl _, a3, b1, b2, b3, b4, b5⟩
theorem rh_same {T T' : Nat} {R R' : Ru} {V V' : St} {z z' : Fn} {N : Nat} (h : RelSt T R V z) (h' : RelSt T' R' V' z') (e : z' 11 = z 11) (Q : Ru) : f_X4_ruleHolds N V' Q = f_X4_ruleHolds N V Q := by
  obtain ⟨s, hs, e1, e2⟩ := sns h
  obtain ⟨s', hs', e1', e2'⟩ := sns h'
  unfold f_X4_ruleHolds
  rw [e1, e1', ← e2, ← e2', e]
theorem Scr.tr2 {A B C : Md} (h : Scr A (A.1, B.2)) (g : Scr B (B.1, C.2)) : Scr A (A.1, C.2) :=
  ⟨rfl, g.2.1.trans h.2.1, g.2.2.1.trans h.2.2.1, g.2.2.2.1.trans h.2.2.2.1, g.2.2.2.2.1.trans h.2.2.2.2.1, g.2.2.2.2.2.1.trans h.2.2.2.2.2.1, g.2.2.2.2.2.2.1.trans h.2.2.2.2.2.2.1, g.2.2.2.2.2.2.2.trans h.2.2.2.2.2.2.2⟩
theorem st_pass {ρ : Nat → Ru} {RS : Nat → Prop} {Vp : Pd} {Vd : Rd} {Vn : St} {Vm : St} {Vh : Hb} {Vk0 : St} {Vk1 : St} {Vk2 : St} {Vk3 : St} {Vk4 : St} {Vk5 : St} {Vs0 : St} {Vs1 : St} {Vz : Fn} {M : Md} {N : Nat} (hN : 5000 ≤ N) (H : RelS ρ RS (Vp, Vd, Vn, Vm, Vh, Vk0, Vk1, Vk2, Vk3, Vk4, Vk5, Vs0, Vs1, Vz) M) (p0 : Int32) : ∃ (o1 : Int32 × St × Hb × St × St × St × St × St × St) (o2 : Int32 × Md), f_X5_pass N Vn Vh Vk0 Vk1 Vk2 Vk3 Vk4 Vk5 (ρ Vn.2.2.2.2.2.2.1) p0 = some o1 ∧ f_X6_pass N M p0 = some o2 ∧ o1.1 = o2.1 ∧ RelS ρ RS (Vp, Vd, o1.2.1, Vm, o1.2.2.1, o1.2.2.2.1, o1.2.2.2.2.1, o1.2.2.2.2.2.1, o1.2.2.2.2.2.2.1, o1.2.2.2.2.2.2.2.1, o1.2.2.2.2.2.2.2.2, Vs0, Vs1, Vz) o2.2 := by
  obtain ⟨hn, hh, hs, hp⟩ := RelS_iff.mp H
  unfold f_X5_pass f_X6_pass b_X5_pass_12
  by_cases h1 : p0 < 1
  · rw [if_pos h1, in_0 (.inl h1)]; exact ⟨_, (-2, M), rfl, rfl, rfl, H⟩
  by_cases h2 : p0 ≤ 999
  · obtain ⟨q, hq, rfl⟩ := nI_of2 (x := p0) (M := 999) (n := 999) z_999 (by rw [z_lt, z_0]; rw [z_lt, z_1] at h1; omega) h2
    obtain ⟨t, ht, et1, et2⟩ := tim hn.1
    have e1 : (99999 : Int32) - nI q = nI (99999 - q) := pk_sub (a := 99999) (by omega)
    rw [if_neg h1, if_pos h2, in_1 h1 (by rw [z_lt]; rw [z_le] at h2; omega), Option.bind_some, if_neg (show ¬ (1 : Int32) = 0 by decide), c_7, et1, et2, e1, nI_add]
    by_cases g : t ≤ 99999 - q
    · rw [if_pos (nI_le g (by omega)), if_pos (show nI (t + q) ≤ (99999 : Int32) from nI_le (show t + q ≤ 99999 by omega) (by decide))]
      obtain ⟨o, P, c, f1, f2, f3⟩ := r_record hN H
      obtain ⟨hv, M2, w1, w2, w3, w4⟩ := rh hN hn.1
      rw [f1, f2, Option.bind_some, Option.bind_some, w1, Option.bind_some]
      obtain ⟨o1, o2, g1, g2, V1, M1, rfl, rfl, k3, k4, k5⟩ := lp_2 (b1 := b_X5_pass_53 N Vn Vh Vk0 Vk1 Vk2 Vk3 Vk4 Vk5 (ρ Vn.2.2.2.2.2.2.1) (nI q)) (b2 := b_X6_pass_37 N M (nI q))
        (P := fun n s1 s2 => n ≤ q ∧ ∃ (V1 : St) (M1 : Md), s1 = (V1, o.1, o.2.1, o.2.2.1, o.2.2.2.1, o.2.2.2.2.1, o.2.2.2.2.2.1, o.2.2.2.2.2.2, hv, nI (q - n)) ∧ s2 = (M1, nI (q - n)) ∧ RelSt (t + (q - n)) (ρ Vn.2.2.2.2.2.2.1) V1 M1.1 ∧ V1.2.2.2.2.2.2.1 = Vn.2.2.2.2.2.2.1 ∧ M1.1 11 = M.1 11 ∧ Scr (M.1, P, M.2.2.1, M.2.2.2.1, c, M.2.2.2.2.2) (M.1, M1.2))
        (Q := fun o1 o2 => ∃ (V1 : St) (M1 : Md), o1 = (V1.2.2.2.2.2.2.2.2.2.2.1, V1, o.1, o.2.1, o.2.2.1, o.2.2.2.1, o.2.2.2.2.1, o.2.2.2.2.2.1, o.2.2.2.2.2.2) ∧ o2 = (M1.1 7, M1) ∧ RelSt 99999 (ρ Vn.2.2.2.2.2.2.1) V1 M1.1 ∧ V1.2.2.2.2.2.2.1 = Vn.2.2.2.2.2.2.1 ∧ Scr (M.1, P, M.2.2.1, M.2.2.2.1, c, M.2.2.2.2.2) (M.1, M1.2)) (by
        rintro n s1 s2 ⟨hn1, V1, M1, rfl, rfl, r1, r2, r3, r4⟩
        by_cases n0 : n = 0
        · subst n0
          refine .inl ⟨_, _, fun K => ?_, fun K => ?_, V1, M1, rfl, rfl, r1.mono (by omega), r2, r4⟩
          · unfold b_X5_pass_53
            rw [if_pos (show nI q ≤ nI (q - 0) from nI_le (by omega) (by omega))]
          · unfold b_X6_pass_37
            rw [if_pos (show nI q ≤ nI (q - 0) from nI_le (by omega) (by omega))]; rfl
        · have hlt : ¬ nI q ≤ nI (q - n) := nI_ge (by omega) (by omega)
          have en : nI (q - n) + (1 : Int32) = nI (q - (n - 1)) := by rw [nI_1, show q - n + 1 = q - (n - 1) from by omega]
          obtain ⟨V2, M2', y1, y2, y3, y4, y5, y6, -⟩ := r_tick (hv := hv) hN r1 (fun _ => (rh_same hn.1 r1 r3 _).trans w1)
          refine .inr ⟨n - 1, _, _, by omega, ⟨by omega, V2, M2', rfl, rfl, y3.mono (by omega), y4.trans r2, y5.trans r3, r4.tr2 y6⟩, fun K => ?_, fun K => ?_⟩
          · unfold b_X5_pass_53
            dsimp only
            rw [if_neg hlt, y1, Option.bind_some, en]
          · unfold b_X6_pass_37
            dsimp only
            rw [if_neg hlt, y2, Option.bind_some, en])
        q N N (Vn, o.1, o.2.1, o.2.2.1, o.2.2.2.1, o.2.2.2.2.1, o.2.2.2.2.2.1, o.2.2.2.2.2.2, hv, (0 : Int32)) ((M.1, P, M.2.2.1, M.2.2.2.1, c, M.2.2.2.2.2), (0 : Int32)) (by omega) (by omega) ⟨Nat.le_refl _, Vn, (M.1, P, M.2.2.1, M.2.2.2.1, c, M.2.2.2.2.2), by rw [Nat.sub_self]; rfl, by rw [Nat.sub_self]; rfl, (RelSt.exact hn.1 (by omega) et2 (by decide)).mono (by omega), rfl, rfl, Scr.refl _⟩
      refine ⟨_, _, g1, g2, ?_, ?_⟩
      · obtain ⟨t', ht', x1, x2⟩ := tim k3
        exact x1.trans x2.symm
      · have hbase : RelS ρ RS (Vp, Vd, V1, Vm, o.1, o.2.1, o.2.2.1, o.2.2.2.1, o.2.2.2.2.1, o.2.2.2.2.2.1, o.2.2.2.2.2.2, Vs0, Vs1, Vz) (M1.1, P, M.2.2.1, M.2.2.2.1, c, M.2.2.2.2.2) := RelS_iff.mpr ⟨⟨by rw [k4]; exact k3, by rw [k4]; exact hn.2⟩, f3, hs, hp⟩
        exact hbase.scr ⟨rfl, k5.2⟩
    · rw [if_neg (show ¬ nI t ≤ nI (99999 - q) from nI_ge (by omega) (by omega)), if_neg (show ¬ nI (t + q) ≤ (99999 : Int32) from nI_ge (show 99999 < t + q by omega) (by omega))]
      exact ⟨_, _, rfl, rfl, rfl, H⟩
  · rw [if_neg h1, if_neg h2, in_0 (.inr (by rw [z_lt]; rw [z_le] at h2; omega))]; exact ⟨_, (-2, M), rfl, rfl, rfl, H⟩
