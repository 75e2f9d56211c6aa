/-! the least ramp -/
theorem way_fun {T : Nat} {R : Ru} {Vn Vm : St} {M : Md} {N c : Nat} (hN : 5000 ≤ N) (h : RelSt T R Vn M.1) (hc : 1 ≤ c ∧ c ≤ 30) : ∃ u : Int32, (∀ Vm' : St, ∃ C, f_X5_wayWith N Vn Vm' (nI c) = some (u, C)) ∧ (∀ M' : Md, Sc2 M M' → ∃ M2, f_X6_wayWith N M' (nI c) = some (u, M2) ∧ Sc2 M M2) := by
  obtain ⟨u, C, M2, x1, x2, x3⟩ := r_way (Vm := Vm) hN h hc
  refine ⟨u, fun Vm' => ?_, fun M' hM => ?_⟩
  · obtain ⟨u', C', M2', y1, y2, y3⟩ := r_way (Vm := Vm') hN h hc
    have : u' = u := congrArg Prod.fst (Option.some.inj (y2.symm.trans x2))
    exact ⟨C', by rw [y1, this]⟩
  · obtain ⟨u', C', M2', y1, y2, y3⟩ := r_way (Vm := Vm) (M := M') hN (h.cells hM.1) hc
    have : u' = u := congrArg Prod.fst (Option.some.inj (y1.symm.trans x1))
    exact ⟨M2', by rw [y2, this], hM.trans y3⟩
theorem st_leastRamp {ρ : Nat → Ru} {RS : Nat → Prop} {Vp : Pd} {Vd : Rd} {Vn : St} {Vm : St} {Vh : Hb} {Vk0 : St} {Vk1 : St} {Vk2 : St} {Vk3 : St} {Vk4 : St} {Vk5 : St} {Vs0 : St} {Vs1 : St} {Vz : Fn} {M : Md} {N : Nat} (hN : 5000 ≤ N) (H : RelS ρ RS (Vp, Vd, Vn, Vm, Vh, Vk0, Vk1, Vk2, Vk3, Vk4, Vk5, Vs0, Vs1, Vz) M) (p0 : Int32) : ∃ (o1 : Int32 × St) (o2 : Int32 × Md), f_X5_leastRamp N Vn Vm p0 = some o1 ∧ f_X6_leastRamp N M p0 = some o2 ∧ o1.1 = o2.1 ∧ RelS ρ RS (Vp, Vd, Vn, o1.2, Vh, Vk0, Vk1, Vk2, Vk3, Vk4, Vk5, Vs0, Vs1, Vz) o2.2 := by
  obtain ⟨hn, hh, hs, hp⟩ := RelS_iff.mp H
  unfold f_X5_leastRamp f_X6_leastRamp b_X5_leastRamp_11
  by_cases h1 : p0 < 0
  · rw [if_pos h1, in_0 (.inl h1)]; exact ⟨_, (-2, M), rfl, rfl, rfl, H⟩
  by_cases h2 : p0 ≤ 9999
  · rw [if_neg h1, if_pos h2, in_1 h1 (by rw [z_lt]; rw [z_le] at h2; omega), Option.bind_some, if_neg (show ¬ (1 : Int32) = 0 by decide), c_2]
    have hU : ∃ U : Nat → Int32, ∀ c, 1 ≤ c → c ≤ 30 → (∀ Vm' : St, ∃ C, f_X5_wayWith N Vn Vm' (nI c) = some (U c, C)) ∧ (∀ M' : Md, Sc2 M M' → ∃ M2, f_X6_wayWith N M' (nI c) = some (U c, M2) ∧ Sc2 M M2) := by
      refine ⟨fun c => ((f_X6_wayWith N M (nI c)).getD (0, M)).1, fun c q1 q2 => ?_⟩
      obtain ⟨u, w1, w2⟩ := way_fun (Vm := Vm) hN hn.1 ⟨q1, q2⟩
      obtain ⟨M2, w3, -⟩ := w2 M (Sc2.refl M)
      have : ((f_X6_wayWith N M (nI c)).getD (0, M)).1 = u := by rw [w3]; rfl
      dsimp only
      rw [this]
      exact ⟨w1, w2⟩
    obtain ⟨U, hU⟩ := hU
    obtain ⟨o1, g1, g2⟩ := lp_m (body := b_X5_leastRamp_20 N Vn Vm p0) (P := fun n s => n ≤ 30 ∧ ∃ Vm' : St, s = (Vm', nI (31 - n)) ∧ ∀ c, 1 ≤ c → c < 31 - n → p0 < U c)
      (Q := fun o => (o.1 = -6 ∧ ∀ c, 1 ≤ c → c ≤ 30 → p0 < U c) ∨ (∃ c, 1 ≤ c ∧ c ≤ 30 ∧ o.1 = nI c ∧ ¬ p0 < U c ∧ ∀ d, 1 ≤ d → d < c → p0 < U d)) (by
      rintro n s ⟨hn30, Vm', rfl, ha⟩
      by_cases n0 : n = 0
      · subst n0
        refine .inl ⟨(-6, Vm'), fun K => ?_, .inl ⟨rfl, fun c q1 q2 => ha c q1 (by omega)⟩⟩
        unfold b_X5_leastRamp_20
        rw [if_pos (show lstG.getD (Int32.toNatClampNeg (2 : Int32)) 0 < nI (31 - 0) by decide)]
      · have hlt : ¬ lstG.getD (Int32.toNatClampNeg (2 : Int32)) 0 < nI (31 - n) := by
          rw [c_2]; exact nI_nlt (show 31 - n ≤ 30 by omega) (by decide)
        obtain ⟨w1, w2⟩ := hU (31 - n) (by omega) (by omega)
        obtain ⟨C, w3⟩ := w1 Vm'
        by_cases g : p0 < U (31 - n)
        · refine .inr ⟨n - 1, (C, nI (31 - (n - 1))), by omega, ⟨by omega, C, rfl, fun c q1 q2 => ?_⟩, fun K => ?_⟩
          · by_cases e : c = 31 - n
            · rw [e]; exact g
            · exact ha c q1 (by omega)
          · unfold b_X5_leastRamp_20
            dsimp only
            rw [if_neg hlt, w3, Option.bind_some, if_pos g, nI_1, show 31 - n + 1 = 31 - (n - 1) from by omega]
        · refine .inl ⟨(nI (31 - n), C), fun K => ?_, .inr ⟨31 - n, by omega, by omega, rfl, g, ha⟩⟩
          unfold b_X5_leastRamp_20
          dsimp only
          rw [if_neg hlt, w3, Option.bind_some, if_neg g])
      N 30 (Vm, lstL.getD 2 0) (by omega) ⟨Nat.le_refl _, Vm, rfl, fun c q1 q2 => absurd q2 (by omega)⟩
    obtain ⟨o2, k1, k2, k3⟩ := lp_m (body := b_X6_leastRamp_20 N M p0) (P := fun n s => n ≤ 30 ∧ ∃ (M' : Md) (b : Int32), s = (M', b, nI n) ∧ Sc2 M M' ∧ ((b = -6 ∧ ∀ c, n < c → c ≤ 30 → p0 < U c) ∨ (∃ c, n < c ∧ c ≤ 30 ∧ b = nI c ∧ ¬ p0 < U c ∧ ∀ d, n < d → d < c → p0 < U d)))
      (Q := fun o => Sc2 M o.2 ∧ ((o.1 = -6 ∧ ∀ c, 0 < c → c ≤ 30 → p0 < U c) ∨ (∃ c, 0 < c ∧ c ≤ 30 ∧ o.1 = nI c ∧ ¬ p0 < U c ∧ ∀ d, 0 < d → d < c → p0 < U d))) (by
      rintro n s ⟨hn30, M', b, rfl, hM, hb⟩
      by_cases n0 : n = 0
      · subst n0
        refine .inl ⟨(b, M'), fun K => ?_, hM, hb⟩
        unfold b_X6_leastRamp_20
        rw [if_pos (show nI 0 < (1 : Int32) by decide)]
      · have hlt : ¬ nI n < (1 : Int32) := nI_nlt (show 1 ≤ n by omega) (by omega)
        obtain ⟨w1, w2⟩ := hU n (by omega) hn30
        obtain ⟨M2, w3, w4⟩ := w2 M' hM
        have en : nI n - (1 : Int32) = nI (n - 1) := by
          have := nI_pred (n - 1); rw [show n - 1 + 1 = n from by omega] at this; exact this
        by_cases g : p0 < U n
        · refine .inr ⟨n - 1, (M2, b, nI (n - 1)), by omega, ⟨by omega, M2, b, rfl, w4, ?_⟩, fun K => ?_⟩
          · rcases hb with ⟨e, ha⟩ | ⟨c, c1, c2, c3, c4, c5⟩
            · refine .inl ⟨e, fun c q1 q2 => ?_⟩
              by_cases e2 : c = n
              · rw [e2]; exact g
              · exact ha c (by omega) q2
            · refine .inr ⟨c, by omega, c2, c3, c4, fun d q1 q2 => ?_⟩
              by_cases e2 : d = n
              · rw [e2]; exact g
              · exact c5 d (by omega) q2
          · unfold b_X6_leastRamp_20 b_X6_leastRamp_39
            dsimp only
            rw [if_neg hlt, w3, Option.bind_some, if_pos g, en]
        · refine .inr ⟨n - 1, (M2, nI n, nI (n - 1)), by omega, ⟨by omega, M2, nI n, rfl, w4, .inr ⟨n, by omega, hn30, rfl, g, fun d q1 q2 => absurd q2 (by omega)⟩⟩, fun K => ?_⟩
          unfold b_X6_leastRamp_20 b_X6_leastRamp_39
          dsimp only
          rw [if_neg hlt, w3, Option.bind_some, if_neg g, en])
      N 30 (M, (-6 : Int32), (30 : Int32)) (by omega) ⟨Nat.le_refl _, M, -6, rfl, Sc2.refl M, .inl ⟨rfl, fun c q1 q2 => absurd q1 (by omega)⟩⟩
    refine ⟨o1, o2, g1, k1, ?_, H.sc2 k2⟩
    rcases g2 with ⟨e1, a1⟩ | ⟨c, c1, c2, c3, c4, c5⟩
    · rcases k3 with ⟨e2, a2⟩ | ⟨d, d1, d2, d3, d4, d5⟩
      · rw [e1, e2]
      · exact absurd (a1 d d1 d2) d4
    · rcases k3 with ⟨e2, a2⟩ | ⟨d, d1, d2, d3, d4, d5⟩
      · exact absurd (a2 c c1 c2) c4
      · have : c = d := by
          rcases Nat.lt_trichotomy c d with q | q | q
          · exact absurd (d5 c c1 q) c4
          · exact q
          · exact absurd (c5 d d1 q) d4
        rw [c3, d3, this]
  · rw [if_neg h1, if_neg h2, in_0 (.inr (by rw [z_lt]; rw [z_le] at h2; omega))]; exact ⟨_, (-2, M), rfl, rfl, rfl, H⟩
