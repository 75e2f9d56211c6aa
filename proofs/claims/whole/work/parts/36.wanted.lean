/-! one tick: the wanted speed -/
theorem q_doubt {N : Nat} (hN : 5000 ≤ N) (V : St) : ∃ d : Int32, f_X4_isInDoubt N V = some d ∧ ((d = 1 ∧ ∃ j, j < 4 ∧ ¬ V.2.2.2.2.1 j ≤ V.1 4) ∨ (d = 0 ∧ ∀ j, j < 4 → V.2.2.2.2.1 j ≤ V.1 4)) :=
  lp_m (body := b_X4_isInDoubt_2 N V) (P := fun k s => k ≤ 4 ∧ s = nI (4 - k) ∧ ∀ j, j < 4 - k → V.2.2.2.2.1 j ≤ V.1 4) (Q := fun d => (d = 1 ∧ ∃ j, j < 4 ∧ ¬ V.2.2.2.2.1 j ≤ V.1 4) ∨ (d = 0 ∧ ∀ j, j < 4 → V.2.2.2.2.1 j ≤ V.1 4)) (by
    rintro k s ⟨hk, rfl, ha⟩
    by_cases k0 : k = 0
    · subst k0
      refine .inl ⟨0, fun K => ?_, .inr ⟨rfl, ha⟩⟩
      unfold b_X4_isInDoubt_2
      rw [if_pos (show (4 : Int32) ≤ nI (4 - 0) by decide)]
    · by_cases c : V.2.2.2.2.1 (4 - k) ≤ V.1 4
      · refine .inr ⟨k - 1, nI (4 - (k - 1)), by omega, ⟨by omega, rfl, fun j hj => ?_⟩, fun K => ?_⟩
        · by_cases hj2 : j = 4 - k
          · rw [hj2]; exact c
          · exact ha j (by omega)
        · unfold b_X4_isInDoubt_2
          rw [if_neg (show ¬ (4 : Int32) ≤ nI (4 - k) from nI_ge (show 4 - k < 4 by omega) (by decide)), ix_nI (show 4 - k < 4 by omega) (by decide), cl (4 - k) (by omega), c_4, if_pos c, nI_1, show 4 - k + 1 = 4 - (k - 1) from by omega]
      · refine .inl ⟨1, fun K => ?_, .inl ⟨rfl, 4 - k, by omega, c⟩⟩
        unfold b_X4_isInDoubt_2
        rw [if_neg (show ¬ (4 : Int32) ≤ nI (4 - k) from nI_ge (show 4 - k < 4 by omega) (by decide)), ix_nI (show 4 - k < 4 by omega) (by decide), cl (4 - k) (by omega), c_4, if_neg c]) N 4 (0 : Int32) (by omega) ⟨Nat.le_refl _, by rw [Nat.sub_self]; rfl, fun j hj => absurd hj (by omega)⟩
theorem q_slow0 {N : Nat} (hN : 5000 ≤ N) (M : Md) : ∃ d : Int32, b_X6_isSlow_33 N M 0 = some d ∧ ((d = 1 ∧ ∃ j, j < 4 ∧ ¬ M.1 (12 + j) ≤ M.1 4) ∨ (d = 0 ∧ ∀ j, j < 4 → M.1 (12 + j) ≤ M.1 4)) :=
  lp_m (body := b_X6_isSlow_36 N M) (P := fun k s => k ≤ 4 ∧ ∃ f, s = (f, nI (4 - k)) ∧ ((f = 1 ∧ ∃ j, j < 4 ∧ ¬ M.1 (12 + j) ≤ M.1 4) ∨ (f = 0 ∧ ∀ j, j < 4 - k → M.1 (12 + j) ≤ M.1 4))) (Q := fun d => (d = 1 ∧ ∃ j, j < 4 ∧ ¬ M.1 (12 + j) ≤ M.1 4) ∨ (d = 0 ∧ ∀ j, j < 4 → M.1 (12 + j) ≤ M.1 4)) (by
    rintro k s ⟨hk, f, rfl, hf⟩
    by_cases k0 : k = 0
    · subst k0
      refine .inl ⟨f, fun K => ?_, hf⟩
      unfold b_X6_isSlow_36
      rw [if_pos (show (4 : Int32) ≤ nI (4 - 0) by decide)]
      rcases hf with ⟨rfl, -⟩ | ⟨rfl, -⟩
      · exact zb_ok (.inr rfl)
      · exact zb_ok (.inl rfl)
    · have h4 : ¬ (4 : Int32) ≤ nI (4 - k) := nI_ge (show 4 - k < 4 by omega) (by decide)
      have hq : (12 : Int32) + nI (4 - k) = nI (12 + (4 - k)) := nI_add 12 _
      have en : nI (4 - k) + (1 : Int32) = nI (4 - (k - 1)) := by rw [nI_1, show 4 - k + 1 = 4 - (k - 1) from by omega]
      rcases hf with ⟨rfl, hj⟩ | ⟨rfl, ha⟩
      · refine .inr ⟨k - 1, (1, nI (4 - (k - 1))), by omega, ⟨by omega, 1, rfl, .inl ⟨rfl, hj⟩⟩, fun K => ?_⟩
        unfold b_X6_isSlow_36 b_X6_isSlow_63 b_X6_isSlow_68
        dsimp only
        rw [if_neg h4, if_neg (show ¬ (1 : Int32) = 0 by decide), en]
      · by_cases c : M.1 (12 + (4 - k)) ≤ M.1 4
        · refine .inr ⟨k - 1, (0, nI (4 - (k - 1))), by omega, ⟨by omega, 0, rfl, .inr ⟨rfl, fun j hj => ?_⟩⟩, fun K => ?_⟩
          · by_cases hj2 : j = 4 - k
            · rw [hj2]; exact c
            · exact ha j (by omega)
          · unfold b_X6_isSlow_36 b_X6_isSlow_68
            dsimp only
            rw [if_neg h4, if_pos rfl, hq, ix_nI (show 12 + (4 - k) < 173 by omega) (by decide), cl (12 + (4 - k)) (by omega), c_4, if_pos c, en]
        · refine .inr ⟨k - 1, (1, nI (4 - (k - 1))), by omega, ⟨by omega, 1, rfl, .inl ⟨rfl, 4 - k, by omega, c⟩⟩, fun K => ?_⟩
          unfold b_X6_isSlow_36 b_X6_isSlow_63 b_X6_isSlow_68
          dsimp only
          rw [if_neg h4, if_pos rfl, hq, ix_nI (show 12 + (4 - k) < 173 by omega) (by decide), cl (12 + (4 - k)) (by omega), c_4, if_neg c, en]) N 4 ((0 : Int32), (0 : Int32)) (by omega) ⟨Nat.le_refl _, 0, by rw [Nat.sub_self]; rfl, .inr ⟨rfl, fun j hj => absurd hj (by omega)⟩⟩
theorem q_slow1 {N : Nat} (hN : 5000 ≤ N) (M : Md) : b_X6_isSlow_33 N M 1 = some 1 := by
  obtain ⟨d, h1, h2⟩ := lp_m (body := b_X6_isSlow_36 N M) (P := fun k s => k ≤ 4 ∧ s = (1, nI (4 - k))) (Q := fun d => d = 1) (by
    rintro k s ⟨hk, rfl⟩
    by_cases k0 : k = 0
    · subst k0
      refine .inl ⟨1, fun K => ?_, rfl⟩
      unfold b_X6_isSlow_36
      rw [if_pos (show (4 : Int32) ≤ nI (4 - 0) by decide)]
      exact zb_ok (.inr rfl)
    · refine .inr ⟨k - 1, (1, nI (4 - (k - 1))), by omega, ⟨by omega, rfl⟩, fun K => ?_⟩
      unfold b_X6_isSlow_36 b_X6_isSlow_63 b_X6_isSlow_68
      dsimp only
      rw [if_neg (show ¬ (4 : Int32) ≤ nI (4 - k) from nI_ge (show 4 - k < 4 by omega) (by decide)), if_neg (show ¬ (1 : Int32) = 0 by decide), nI_1, show 4 - k + 1 = 4 - (k - 1) from by omega]) N 4 ((1 : Int32), (0 : Int32)) (by omega) ⟨Nat.le_refl _, by rw [Nat.sub_self]; rfl⟩
  rw [h2] at h1; exact h1
theorem z_90 : (90 : Int32).toInt = 90 := by decide
theorem z_999 : (999 : Int32).toInt = 999 := by decide
theorem r_wanted {T : Nat} {R : Ru} {V : St} {M : Md} {N w : Nat} (hN : 5000 ≤ N) (h : RelSt T R V M.1) (hw : w ≤ 4000) (hl : f_X6_loadNow N M = some (nI w)) :
    ∃ x : Int32, f_X4_wantedSpeed N V (nI w) = some x ∧ f_X6_wanted N M = some x ∧ 0 ≤ x.toInt ∧ x.toInt ≤ 90 ∧ (M.1 9 ≠ 0 → x = 0) := by
  obtain ⟨p, t, s, a1, a2, a3, b1, b2, b3, b4, b5, b6, c1, c2, c3, c4, c5, c6, c7, c8, -⟩ := h
  obtain ⟨d0, k1, k2⟩ := q_doubt hN V
  obtain ⟨d1, k3, k4⟩ := q_slow0 hN M
  have hd : d1 = d0 ∧ (d0 = 0 ∨ d0 = 1) := by
    have e4 := c1 4 (by omega)
    rcases k2 with ⟨rfl, j, hj, hn⟩ | ⟨rfl, ha⟩
    · rcases k4 with ⟨rfl, -⟩ | ⟨rfl, hb⟩
      · exact ⟨rfl, .inr rfl⟩
      · exact absurd (by rw [c5 j hj, e4]; exact hb j hj) hn
    · rcases k4 with ⟨rfl, j, hj, hn⟩ | ⟨rfl, -⟩
      · exact absurd (by rw [← c5 j hj, ← e4]; exact ha j hj) hn
      · exact ⟨rfl, .inl rfl⟩
  obtain ⟨rfl, hd0⟩ := hd
  obtain ⟨q0, q1, q2, q3, q4, q5, q6, q7, q8, q9, q10, q11, q12, q13⟩ := c2
  obtain ⟨a, ha, ea⟩ := nI_of2 (x := M.1 0) (M := 90) (n := 90) z_90 (by rw [z_lt, z_0]; omega) (by rw [z_le, z_90]; omega)
  obtain ⟨d, hd, ed⟩ := nI_of2 (x := M.1 5) (M := 999) (n := 999) z_999 (by rw [z_lt, z_0]; omega) (by rw [z_le, z_999]; omega)
  have hd1 : 1 ≤ d := by
    rw [ed, z_n (by omega)] at q10; omega
  have hv5 : (if (1 : Int32) < V.1 5 then V.1 5 else (1 : Int32)) = nI d := by
    rw [c1 5 (by omega), ed]
    by_cases h1 : d = 1
    · subst h1; decide
    · rw [if_pos (show (1 : Int32) < nI d from nI_lt (show 1 < d by omega) (by omega))]
  obtain ⟨q, hdiv, hwd⟩ : ∃ q, nI w / nI d = nI q ∧ q ≤ 4000 := ⟨w / d, pk_div (by omega) (by omega) (by omega), Nat.le_trans (Nat.div_le_self _ _) hw⟩
  have hX : (nI a - nI q).toInt = (a : Int) - q := pk_sub_toInt (by omega) (by omega)
  have hdne : ¬ nI d = 0 := nI_ne0 (by omega) (by omega)
  unfold f_X4_wantedSpeed f_X6_wanted f_X6_isSlow b_X6_isSlow_32
  rw [c4.1, c_9, c_10, c_16, c_3, b1, b2, c6.1, c1 3 (by omega)]
  by_cases h0 : M.1 9 = 0
  · rw [if_pos h0, if_pos h0, hl, Option.bind_some, c_5, ed]
    unfold nz
    rw [if_neg hdne]
    have lo : ∃ x : Int32, b_X4_wantedSpeed_36 N V (nI w) 0 = some x ∧ ((b_X6_isSlow_33 N M 0).bind fun o5 => (if o5 = 0 then (if (M.1 (Int32.toNatClampNeg (1 : Int32))) ≤ ((M.1 (Int32.toNatClampNeg (0 : Int32))) - (nI w / nI d)) then b_X6_wanted_58 N M ((M.1 (Int32.toNatClampNeg (0 : Int32))) - (nI w / nI d)) else b_X6_wanted_48 N M ()) else b_X6_wanted_48 N M ())) = some x ∧ 0 ≤ x.toInt ∧ x.toInt ≤ 90 ∧ (M.1 9 ≠ 0 → x = 0) := by
      unfold b_X4_wantedSpeed_36 b_X6_wanted_58 b_X6_wanted_48 b_X4_wantedSpeed_48 b_X6_wanted_58
      rw [if_pos rfl, k1, k3, Option.bind_some, Option.bind_some, c_1, c_5, c_0, hv5]
      unfold nz
      rw [if_neg hdne, hdiv, c1 1 (by omega), c1 0 (by omega), ea]
      rcases hd0 with rfl | rfl
      · rw [if_pos rfl, if_pos rfl]
        by_cases g : M.1 1 ≤ nI a - nI q
        · rw [if_pos g]
          have g' := z_le.mp g
          refine ⟨nI a - nI q, ?_, rfl, by omega, by omega, fun hc => absurd h0 hc⟩
          by_cases g2 : M.1 1 < nI a - nI q
          · rw [if_pos g2]
          · rw [if_neg g2]
            have : M.1 1 = nI a - nI q := Int32.toInt_inj.mp (by rw [z_lt] at g2; omega)
            rw [this]
        · rw [if_neg g]
          refine ⟨M.1 1, ?_, rfl, by omega, by omega, fun hc => absurd h0 hc⟩
          rw [if_neg (fun g2 => g (by rw [z_le]; rw [z_lt] at g2; omega))]
      · rw [if_neg (show ¬ (1 : Int32) = 0 by decide), if_neg (show ¬ (1 : Int32) = 0 by decide)]
        exact ⟨_, rfl, rfl, by omega, by omega, fun hc => absurd h0 hc⟩
    by_cases p0 : p = 0
    · subst p0
      rw [if_pos (show nI 0 = 0 from rfl), if_pos (show nI 0 = 0 from rfl)]
      by_cases g : M.1 16 + 1 ≤ M.1 3
      · rw [if_pos g, if_pos g]
        exact lo
      · rw [if_neg g, if_neg g, q_slow1 hN, Option.bind_some, if_neg (show ¬ (1 : Int32) = 0 by decide)]
        unfold b_X4_wantedSpeed_36 b_X6_wanted_48 b_X4_wantedSpeed_48 b_X6_wanted_58
        rw [if_neg (show ¬ (1 : Int32) = 0 by decide), c_1, c1 1 (by omega)]
        exact ⟨_, rfl, rfl, by omega, by omega, fun hc => absurd h0 hc⟩
    · rw [if_neg (nI_ne0 (by omega) (by omega)), if_neg (nI_ne0 (by omega) (by omega))]
      exact lo
  · rw [if_neg h0, if_neg h0]
    exact ⟨0, rfl, rfl, by rw [z_0]; omega, by rw [z_0]; omega, fun _ => rfl⟩
