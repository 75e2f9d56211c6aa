theorem c_0 : Int32.toNatClampNeg (0 : Int32) = 0 := by decide
theorem lp_2 {S1 O1 S2 O2 : Type} {b1 : (S1 → Option O1) → S1 → Option O1} {b2 : (S2 → Option O2) → S2 → Option O2} {P : Nat → S1 → S2 → Prop} {Q : O1 → O2 → Prop}
    (step : ∀ k s1 s2, P k s1 s2 → (∃ o1 o2, (∀ K, b1 K s1 = some o1) ∧ (∀ K, b2 K s2 = some o2) ∧ Q o1 o2) ∨ (∃ j t1 t2, j < k ∧ P j t1 t2 ∧ (∀ K, b1 K s1 = K t1) ∧ (∀ K, b2 K s2 = K t2))) :
    ∀ (k N1 N2 : Nat) (s1 : S1) (s2 : S2), k < N1 → k < N2 → P k s1 s2 → ∃ o1 o2, lp b1 N1 s1 = some o1 ∧ lp b2 N2 s2 = some o2 ∧ Q o1 o2 := by
  intro k
  induction k using Nat.strongRecOn with
  | ind k ih =>
    intro N1 N2 s1 s2 h1 h2 hP
    obtain ⟨n1, rfl⟩ : ∃ n, N1 = n + 1 := ⟨N1 - 1, by omega⟩
    obtain ⟨n2, rfl⟩ : ∃ n, N2 = n + 1 := ⟨N2 - 1, by omega⟩
    rcases step k s1 s2 hP with ⟨o1, o2, g1, g2, hQ⟩ | ⟨j, t1, t2, hj, hP', g1, g2⟩
    · exact ⟨o1, o2, g1 _, g2 _, hQ⟩
    · obtain ⟨o1, o2, q1, q2, hQ⟩ := ih j hj n1 n2 t1 t2 (by omega) (by omega) hP'
      exact ⟨o1, o2, (g1 (lp b1 n1)).trans q1, (g2 (lp b2 n2)).trans q2, hQ⟩
theorem lp_mono {S O : Type} {body : (S → Option O) → S → Option O} (hb : ∀ (K K' : S → Option O), (∀ s o, K s = some o → K' s = some o) → ∀ s o, body K s = some o → body K' s = some o) :
    ∀ (n m : Nat), n ≤ m → ∀ s o, lp body n s = some o → lp body m s = some o := by
  intro n
  induction n with
  | zero => intro m _ s o h; cases h
  | succ n ih =>
    intro m hm s o h
    obtain ⟨m', rfl⟩ : ∃ k, m = k + 1 := ⟨m - 1, by omega⟩
    exact hb _ _ (ih m' (by omega)) s o h
theorem bits_tab : ∀ k, k < 256 → ∃ v : Int32, f_J6_bitCount_0f7a4 (nI k) = some v ∧ lp (b_X6_bits_4 0 0) 9 ((0 : Int32), nI k) = some v := by
  have : ∀ k, k < 256 → (f_J6_bitCount_0f7a4 (nI k)).isSome = true ∧ f_J6_bitCount_0f7a4 (nI k) = lp (b_X6_bits_4 0 0) 9 ((0 : Int32), nI k) := by decide +kernel
  intro k hk
  obtain ⟨h1, h2⟩ := this k hk
  obtain ⟨v, hv⟩ := Option.isSome_iff_exists.mp h1
  exact ⟨v, hv, h2.symm.trans hv⟩
theorem bits_ok {N k : Nat} (hN : 5000 ≤ N) (hk : k < 256) : ∃ v : Int32, f_J6_bitCount_0f7a4 (nI k) = some v ∧ f_X6_bits N (nI k) = some v := by
  obtain ⟨v, h1, h2⟩ := bits_tab k hk
  refine ⟨v, h1, lp_mono (body := b_X6_bits_4 0 0) (fun K K' hK s o h => ?_) 9 N (by omega) _ _ h2⟩
  unfold b_X6_bits_4 at h ⊢
  by_cases c : s.2 = 0
  · rw [if_pos c] at h ⊢; exact h
  · rw [if_neg c] at h ⊢; exact hK _ _ h
theorem sem {T : Nat} {R : Ru} {V : St} {M : Md} {N : Nat} (hN : 5000 ≤ N) (h : RelSt T R V M.1) : f_X6_parts N M = some R.2.2.2.2.1 ∧ f_X6_letters N M = some R.2.2.2.2.2 ∧
    ∀ s : Nat, s < 256 → ∃ (hv lv : Int32) (M2 : Md), f_X6_workOut N M (nI s) = some M2 ∧ Scr M M2 ∧ M2.2.2.2.2.2.2.2.2.1 0 = hv ∧ M2.2.2.2.2.2.2.2.2.2.2.1 0 = lv ∧ f_X3_depth R = some (M2.2.2.2.2.2.2.2.2.2.1 0) ∧ (hv = 0 ∨ hv = 1) ∧ f_X3_holds N R (nI s) = some hv ∧ f_X3_lookedAt N R (nI s) = some lv := by
  obtain ⟨p, t, s, a1, a2, a3, b1, b2, b3, b4, b5, b6, c1, c2, c3, c4, c5, c6, c7, c8, n, hn, h1, h2, h3⟩ := h
  exact h3 N hN M hn (fun _ _ => rfl)
theorem zb_ok {α : Type} {v : Int32} {A : Option α} (h : v = 0 ∨ v = 1) : zb v A = A := if_pos h
theorem rh {T : Nat} {R : Ru} {V : St} {M : Md} {N : Nat} (hN : 5000 ≤ N) (h : RelSt T R V M.1) : ∃ (hv : Int32) (M2 : Md), f_X4_ruleHolds N V R = some hv ∧ f_X6_holdsNow N M = some (hv, M2) ∧ Scr M M2 ∧ (hv = 0 ∨ hv = 1) := by
  obtain ⟨s, hs, e1, e2⟩ := sns h
  obtain ⟨-, -, q⟩ := sem hN h
  obtain ⟨hv, lv, M2, w1, w2, w3, w4, w5, w6, w7, w8⟩ := q s hs
  refine ⟨hv, M2, ?_, ?_, w2, w6⟩
  · unfold f_X4_ruleHolds
    rw [e1, w7]
    exact zb_ok w6
  · unfold f_X6_holdsNow f_X6_holdsWith
    rw [c_11, e2, w1]
    simp only [Option.bind_some]
    rw [c_0, w3, zb_ok w6]
    exact zb_ok w6
theorem st_rule {ρ : Nat → Ru} {RS : Nat → Prop} {Vp : Pd} {Vd : Rd} {Vn : St} {Vm : St} {Vh : Hb} {Vk0 : St} {Vk1 : St} {Vk2 : St} {Vk3 : St} {Vk4 : St} {Vk5 : St} {Vs0 : St} {Vs1 : St} {Vz : Fn} {M : Md} {N : Nat} (hN : 5000 ≤ N) (H : RelS ρ RS (Vp, Vd, Vn, Vm, Vh, Vk0, Vk1, Vk2, Vk3, Vk4, Vk5, Vs0, Vs1, Vz) M) (p0 : Int32) : ∃ (o1 : Int32) (o2 : Int32 × Md), f_X5_rule N Vn (ρ Vn.2.2.2.2.2.2.1) p0 = some o1 ∧ f_X6_rule N M p0 = some o2 ∧ o1 = o2.1 ∧ RelS ρ RS (Vp, Vd, Vn, Vm, Vh, Vk0, Vk1, Vk2, Vk3, Vk4, Vk5, Vs0, Vs1, Vz) o2.2 := by
  obtain ⟨hn, hh, hs, hp⟩ := RelS_iff.mp H
  obtain ⟨s, hs6, e1, e2⟩ := sns hn.1
  obtain ⟨-, -, q⟩ := sem hN hn.1
  obtain ⟨hv, lv, M2, w1, w2, w3, w4, w5, w6, w7, w8⟩ := q s hs6
  obtain ⟨q1, q2, -⟩ := sem (M := M2) hN (by rw [w2.1]; exact hn.1)
  have H2 := H.scr w2
  unfold f_X5_rule f_X6_rule b_X5_rule_73 b_X6_rule_74 f_X4_ruleHolds
  rw [c_11, e2, w1, e1, w7, w5, w8, c_0]
  simp only [Option.bind_some]
  rw [zb_ok w6, q1, q2, w3, w4]
  simp only [Option.bind_some]
  by_cases p0' : p0 = 0
  · rw [if_pos p0', if_pos p0']; exact ⟨_, _, rfl, rfl, rfl, H2⟩
  rw [if_neg p0', if_neg p0']
  by_cases p1' : p0 = 1
  · rw [if_pos p1', if_pos p1']; exact ⟨_, _, rfl, rfl, rfl, H2⟩
  rw [if_neg p1', if_neg p1']
  by_cases p2' : p0 = 2
  · rw [if_pos p2', if_pos p2']
    by_cases hz : hv = 0
    · rw [if_pos hz, if_pos hz]; exact ⟨_, _, rfl, rfl, rfl, H2⟩
    · rw [if_neg hz, if_neg hz]; exact ⟨_, _, rfl, rfl, rfl, H2⟩
  rw [if_neg p2', if_neg p2']
  by_cases p3' : p0 = 3
  · rw [if_pos p3', if_pos p3']; exact ⟨_, _, rfl, rfl, rfl, H2⟩
  rw [if_neg p3', if_neg p3']
  by_cases p4' : p0 = 4
  · rw [if_pos p4', if_pos p4']; exact ⟨_, _, rfl, rfl, rfl, H2⟩
  rw [if_neg p4', if_neg p4']
  exact ⟨_, _, rfl, rfl, rfl, H2⟩
theorem hw {T : Nat} {R : Ru} {V : St} {M : Md} {N s : Nat} (hN : 5000 ≤ N) (h : RelSt T R V M.1) (hs : s < 256) : ∃ (hv : Int32) (M2 : Md), f_X3_holds N R (nI s) = some hv ∧ f_X6_holdsWith N M (nI s) = some (hv, M2) ∧ Scr M M2 ∧ (hv = 0 ∨ hv = 1) := by
  obtain ⟨-, -, q⟩ := sem hN h
  obtain ⟨hv, lv, M2, w1, w2, w3, w4, w5, w6, w7, w8⟩ := q s hs
  refine ⟨hv, M2, w7, ?_, w2, w6⟩
  unfold f_X6_holdsWith
  rw [w1]
  simp only [Option.bind_some]
  rw [c_0, w3, zb_ok w6]
theorem st_wouldHold {ρ : Nat → Ru} {RS : Nat → Prop} {Vp : Pd} {Vd : Rd} {Vn : St} {Vm : St} {Vh : Hb} {Vk0 : St} {Vk1 : St} {Vk2 : St} {Vk3 : St} {Vk4 : St} {Vk5 : St} {Vs0 : St} {Vs1 : St} {Vz : Fn} {M : Md} {N : Nat} (hN : 5000 ≤ N) (H : RelS ρ RS (Vp, Vd, Vn, Vm, Vh, Vk0, Vk1, Vk2, Vk3, Vk4, Vk5, Vs0, Vs1, Vz) M) (p0 : Int32) : ∃ (o1 : Int32) (o2 : Int32 × Md), f_X5_wouldHold N Vn (ρ Vn.2.2.2.2.2.2.1) p0 = some o1 ∧ f_X6_wouldHold N M p0 = some o2 ∧ o1 = o2.1 ∧ RelS ρ RS (Vp, Vd, Vn, Vm, Vh, Vk0, Vk1, Vk2, Vk3, Vk4, Vk5, Vs0, Vs1, Vz) o2.2 := by
  obtain ⟨hn, hh, hs, hp⟩ := RelS_iff.mp H
  unfold f_X5_wouldHold f_X6_wouldHold
  rcases pk_ix p0 (n := 256) (by decide) with hlt | hge | ⟨s, hs6, rfl⟩
  · rw [if_pos hlt, in_0 (.inl hlt)]; exact ⟨_, (-2, M), rfl, rfl, rfl, H⟩
  · rw [if_neg (nn hge (by decide)).1, if_neg (show ¬ p0 < (256 : Int32) from (nn hge (by decide)).2), in_0 (.inr (show (255 : Int32) < p0 from gt_of (n := 255) hge (by decide)))]
    exact ⟨_, (-2, M), rfl, rfl, rfl, H⟩
  obtain ⟨hv, M2, w1, w2, w3, w4⟩ := hw hN hn.1 hs6
  rw [if_neg (nI_pos (by omega)), if_pos (show nI s < (256 : Int32) from nI_lt hs6 (by decide)), in_1 (nI_pos (by omega)) (show ¬ (255 : Int32) < nI s from nI_nlt (show s ≤ 255 by omega) (by decide)), w1]
  simp only [Option.bind_some]
  rw [if_neg (show ¬ (1 : Int32) = 0 by decide), w2]
  simp only [Option.bind_some]
  by_cases hz : hv = 0
  · rw [if_pos hz, if_pos hz]; exact ⟨_, (0, M2), rfl, rfl, rfl, H.scr w3⟩
  · rw [if_neg hz, if_neg hz]; exact ⟨_, (1, M2), rfl, rfl, rfl, H.scr w3⟩
theorem st_fewest {ρ : Nat → Ru} {RS : Nat → Prop} {Vp : Pd} {Vd : Rd} {Vn : St} {Vm : St} {Vh : Hb} {Vk0 : St} {Vk1 : St} {Vk2 : St} {Vk3 : St} {Vk4 : St} {Vk5 : St} {Vs0 : St} {Vs1 : St} {Vz : Fn} {M : Md} {N : Nat} (hN : 5000 ≤ N) (H : RelS ρ RS (Vp, Vd, Vn, Vm, Vh, Vk0, Vk1, Vk2, Vk3, Vk4, Vk5, Vs0, Vs1, Vz) M) : ∃ (o1 : Int32) (o2 : Int32 × Md), f_X5_fewest N Vn (ρ Vn.2.2.2.2.2.2.1) = some o1 ∧ f_X6_fewest N M = some o2 ∧ o1 = o2.1 ∧ RelS ρ RS (Vp, Vd, Vn, Vm, Vh, Vk0, Vk1, Vk2, Vk3, Vk4, Vk5, Vs0, Vs1, Vz) o2.2 := by
  obtain ⟨hn, hh, hs, hp⟩ := RelS_iff.mp H
  obtain ⟨o1, o2, g1, g2, g3, g4⟩ := lp_2 (b1 := b_X5_fewest_5 N Vn (ρ Vn.2.2.2.2.2.2.1)) (b2 := b_X6_fewest_5 N M) (P := fun k s1 s2 => k ≤ 256 ∧ ∃ (M2 : Md) (b : Int32), Scr M M2 ∧ s1 = (b, nI (256 - k)) ∧ s2 = (M2, b, nI (256 - k)) ∧ (b = -6 ∨ ∃ j, j < 256 ∧ b = nI j)) (Q := fun a b => a = b.1 ∧ Scr M b.2) (by
    rintro k s1 s2 ⟨hk, M2, b, w, rfl, rfl, hb⟩
    by_cases k0 : k = 0
    · subst k0
      refine .inl ⟨b, (b, M2), fun K => ?_, fun K => ?_, rfl, w⟩
      · unfold b_X5_fewest_5; rw [if_pos (show (256 : Int32) ≤ nI (256 - 0) by decide)]
      · unfold b_X6_fewest_5; rw [if_pos (show (256 : Int32) ≤ nI (256 - 0) by decide)]
    have hlt : ¬ (256 : Int32) ≤ nI (256 - k) := nI_ge (show 256 - k < 256 by omega) (by decide)
    obtain ⟨hv, M3, v1, v2, v3, v4⟩ := hw (M := M2) (s := 256 - k) hN (by rw [w.1]; exact hn.1) (by omega)
    obtain ⟨c1, d1, d2⟩ := bits_ok (k := 256 - k) hN (by omega)
    have wt := w.trans v3
    have enx : nI (256 - k) + (1 : Int32) = nI (256 - (k - 1)) := by rw [nI_1, show 256 - k + 1 = 256 - (k - 1) from by omega]
    rcases hb with rfl | ⟨j, hj, rfl⟩
    · by_cases hz : hv = 0
      · exact .inr ⟨k - 1, ((-6), nI (256 - (k - 1))), (M3, (-6), nI (256 - (k - 1))), by omega, ⟨by omega, M3, _, wt, rfl, rfl, .inl rfl⟩, by intro K; unfold b_X5_fewest_5; dsimp only; rw [if_neg hlt, if_pos rfl]; unfold b_X5_fewest_29 b_X5_fewest_34; dsimp only; rw [if_neg (show ¬ (1 : Int32) = 0 by decide), v1, Option.bind_some, if_pos hz]; unfold b_X5_fewest_55; dsimp only; rw [enx], by intro K; unfold b_X6_fewest_5; dsimp only; rw [if_neg hlt, v2, Option.bind_some]; dsimp only; rw [if_pos hz]; unfold b_X6_fewest_39; dsimp only; rw [enx]⟩
      · exact .inr ⟨k - 1, (nI (256 - k), nI (256 - (k - 1))), (M3, nI (256 - k), nI (256 - (k - 1))), by omega, ⟨by omega, M3, _, wt, rfl, rfl, .inr ⟨256 - k, by omega, rfl⟩⟩, by intro K; unfold b_X5_fewest_5; dsimp only; rw [if_neg hlt, if_pos rfl]; unfold b_X5_fewest_29 b_X5_fewest_34; dsimp only; rw [if_neg (show ¬ (1 : Int32) = 0 by decide), v1, Option.bind_some, if_neg hz]; unfold b_X5_fewest_55; dsimp only; rw [enx], by intro K; unfold b_X6_fewest_5; dsimp only; rw [if_neg hlt, v2, Option.bind_some]; dsimp only; rw [if_neg hz, if_pos rfl]; unfold b_X6_fewest_37 b_X6_fewest_39; dsimp only; rw [enx]⟩
    · obtain ⟨c2, d3, d4⟩ := bits_ok (k := j) hN hj
      have hne : ¬ nI j = -6 := fun e => by
        have := congrArg Int32.toInt e
        rw [z_n (by omega)] at this
        have h6 : (-6 : Int32).toInt = -6 := by decide +kernel
        omega
      by_cases hle : c2 ≤ c1
      · by_cases hz : hv = 0
        · exact .inr ⟨k - 1, (nI j, nI (256 - (k - 1))), (M3, nI j, nI (256 - (k - 1))), by omega, ⟨by omega, M3, _, wt, rfl, rfl, .inr ⟨j, hj, rfl⟩⟩, by intro K; unfold b_X5_fewest_5; dsimp only; rw [if_neg hlt, if_neg hne, d1, Option.bind_some, d3, Option.bind_some, if_pos hle]; unfold b_X5_fewest_34; dsimp only; rw [if_pos rfl]; unfold b_X5_fewest_55; dsimp only; rw [enx], by intro K; unfold b_X6_fewest_5; dsimp only; rw [if_neg hlt, v2, Option.bind_some]; dsimp only; rw [if_pos hz]; unfold b_X6_fewest_39; dsimp only; rw [enx]⟩
        · exact .inr ⟨k - 1, (nI j, nI (256 - (k - 1))), (M3, nI j, nI (256 - (k - 1))), by omega, ⟨by omega, M3, _, wt, rfl, rfl, .inr ⟨j, hj, rfl⟩⟩, by intro K; unfold b_X5_fewest_5; dsimp only; rw [if_neg hlt, if_neg hne, d1, Option.bind_some, d3, Option.bind_some, if_pos hle]; unfold b_X5_fewest_34; dsimp only; rw [if_pos rfl]; unfold b_X5_fewest_55; dsimp only; rw [enx], by intro K; unfold b_X6_fewest_5; dsimp only; rw [if_neg hlt, v2, Option.bind_some]; dsimp only; rw [if_neg hz, if_neg hne, d2, Option.bind_some, d4, Option.bind_some, if_pos hle]; unfold b_X6_fewest_39; dsimp only; rw [enx]⟩
      · by_cases hz : hv = 0
        · exact .inr ⟨k - 1, (nI j, nI (256 - (k - 1))), (M3, nI j, nI (256 - (k - 1))), by omega, ⟨by omega, M3, _, wt, rfl, rfl, .inr ⟨j, hj, rfl⟩⟩, by intro K; unfold b_X5_fewest_5; dsimp only; rw [if_neg hlt, if_neg hne, d1, Option.bind_some, d3, Option.bind_some, if_neg hle]; unfold b_X5_fewest_29 b_X5_fewest_34; dsimp only; rw [if_neg (show ¬ (1 : Int32) = 0 by decide), v1, Option.bind_some, if_pos hz]; unfold b_X5_fewest_55; dsimp only; rw [enx], by intro K; unfold b_X6_fewest_5; dsimp only; rw [if_neg hlt, v2, Option.bind_some]; dsimp only; rw [if_pos hz]; unfold b_X6_fewest_39; dsimp only; rw [enx]⟩
        · exact .inr ⟨k - 1, (nI (256 - k), nI (256 - (k - 1))), (M3, nI (256 - k), nI (256 - (k - 1))), by omega, ⟨by omega, M3, _, wt, rfl, rfl, .inr ⟨256 - k, by omega, rfl⟩⟩, by intro K; unfold b_X5_fewest_5; dsimp only; rw [if_neg hlt, if_neg hne, d1, Option.bind_some, d3, Option.bind_some, if_neg hle]; unfold b_X5_fewest_29 b_X5_fewest_34; dsimp only; rw [if_neg (show ¬ (1 : Int32) = 0 by decide), v1, Option.bind_some, if_neg hz]; unfold b_X5_fewest_55; dsimp only; rw [enx], by intro K; unfold b_X6_fewest_5; dsimp only; rw [if_neg hlt, v2, Option.bind_some]; dsimp only; rw [if_neg hz, if_neg hne, d2, Option.bind_some, d4, Option.bind_some, if_neg hle]; unfold b_X6_fewest_37 b_X6_fewest_39; dsimp only; rw [enx]⟩)
    256 N N ((-6 : Int32), (0 : Int32)) (M, (-6 : Int32), (0 : Int32)) (by omega) (by omega) ⟨Nat.le_refl _, M, -6, Scr.refl M, by rw [show nI (256 - 256) = 0 from rfl], by rw [show nI (256 - 256) = 0 from rfl], .inl rfl⟩
  exact ⟨o1, o2, g1, g2, g3, H.scr g4⟩
