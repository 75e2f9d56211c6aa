theorem wo_body {N2 k s : Nat} {V M : Md} {va de lo ops : Fn} {a b c : Int32} {K} (hk : k < 60) (e22 : ¬ M.1 22 ≤ nI k) (ek : M.1 (23 + k) = c) : b_X6_workOut_12 N2 V (nI s) K (sq M va de lo a ops b, nI k) =
    if c = 33 then ((f_X6_push (sq M va de lo a ops b) c).bind fun o => K (o, nI k + 1)) else if c = 40 then ((f_X6_push (sq M va de lo a ops b) c).bind fun o => K (o, nI k + 1)) else if c = 41 then ((f_X6_joinAll N2 (sq M va de lo a ops b) 1).bind fun o => ((f_X6_joinAll N2 (o.1, o.2.1, o.2.2.1, o.2.2.2.1, o.2.2.2.2.1, o.2.2.2.2.2.1, o.2.2.2.2.2.2.1, o.2.2.2.2.2.2.2.1, o.2.2.2.2.2.2.2.2.1, o.2.2.2.2.2.2.2.2.2.1, o.2.2.2.2.2.2.2.2.2.2.1, o.2.2.2.2.2.2.2.2.2.2.2.1, o.2.2.2.2.2.2.2.2.2.2.2.2.1, o.2.2.2.2.2.2.2.2.2.2.2.2.2 - 1) 3).bind fun o27 => K (o27, nI k + 1))) else if c = 38 then ((f_X6_strength c).bind fun o1 => ((f_X6_joinAll N2 (sq M va de lo a ops b) o1).bind fun o3 => ((f_X6_push o3 c).bind fun o5 => K (o5, nI k + 1)))) else if c = 124 then ((f_X6_strength c).bind fun o1 => ((f_X6_joinAll N2 (sq M va de lo a ops b) o1).bind fun o3 => ((f_X6_push o3 c).bind fun o5 => K (o5, nI k + 1)))) else ((f_X6_isSo c (nI s)).bind fun o18 => ix a 64 (ix a 64 (ix a 64 ((f_X6_joinAll N2 (sq M (upd va (Int32.toNatClampNeg a) (vp_nar .boolean o18)) (upd de (Int32.toNatClampNeg a) 1) (upd lo (Int32.toNatClampNeg a) 1) (a + 1) ops b) 3).bind fun o23 => K (o23, nI k + 1))))) := by
  have e : (23 : Int32) + nI k = nI (23 + k) := by rw [show (23 : Int32) = nI 23 from by decide, nI_add]
  have body : b_X6_workOut_12 N2 V (nI s) K (sq M va de lo a ops b, nI k) = (if M.1 (Int32.toNatClampNeg (22 : Int32)) ≤ nI k then ((f_X6_joinAll N2 (sq M va de lo a ops b) (1 : Int32)).bind fun o10 => some o10) else (ix ((23 : Int32) + nI k) 173 (if M.1 (Int32.toNatClampNeg ((23 : Int32) + nI k)) = (33 : Int32) then ((f_X6_push (sq M va de lo a ops b) (M.1 (Int32.toNatClampNeg ((23 : Int32) + nI k)))).bind fun o => K (o, nI k + 1)) else (if M.1 (Int32.toNatClampNeg ((23 : Int32) + nI k)) = (40 : Int32) then ((f_X6_push (sq M va de lo a ops b) (M.1 (Int32.toNatClampNeg ((23 : Int32) + nI k)))).bind fun o => K (o, nI k + 1)) else (if M.1 (Int32.toNatClampNeg ((23 : Int32) + nI k)) = (41 : Int32) then ((f_X6_joinAll N2 (sq M va de lo a ops b) 1).bind fun o => ((f_X6_joinAll N2 (o.1, o.2.1, o.2.2.1, o.2.2.2.1, o.2.2.2.2.1, o.2.2.2.2.2.1, o.2.2.2.2.2.2.1, o.2.2.2.2.2.2.2.1, o.2.2.2.2.2.2.2.2.1, o.2.2.2.2.2.2.2.2.2.1, o.2.2.2.2.2.2.2.2.2.2.1, o.2.2.2.2.2.2.2.2.2.2.2.1, o.2.2.2.2.2.2.2.2.2.2.2.2.1, o.2.2.2.2.2.2.2.2.2.2.2.2.2 - 1) 3).bind fun o27 => K (o27, nI k + 1))) else (if M.1 (Int32.toNatClampNeg ((23 : Int32) + nI k)) = (38 : Int32) then ((f_X6_strength (M.1 (Int32.toNatClampNeg ((23 : Int32) + nI k)))).bind fun o1 => ((f_X6_joinAll N2 (sq M va de lo a ops b) o1).bind fun o3 => ((f_X6_push o3 (M.1 (Int32.toNatClampNeg ((23 : Int32) + nI k)))).bind fun o5 => K (o5, nI k + 1)))) else (if M.1 (Int32.toNatClampNeg ((23 : Int32) + nI k)) = (124 : Int32) then ((f_X6_strength (M.1 (Int32.toNatClampNeg ((23 : Int32) + nI k)))).bind fun o1 => ((f_X6_joinAll N2 (sq M va de lo a ops b) o1).bind fun o3 => ((f_X6_push o3 (M.1 (Int32.toNatClampNeg ((23 : Int32) + nI k)))).bind fun o5 => K (o5, nI k + 1)))) else ((f_X6_isSo (M.1 (Int32.toNatClampNeg ((23 : Int32) + nI k))) (nI s)).bind fun o18 => ix a 64 (ix a 64 (ix a 64 ((f_X6_joinAll N2 (sq M (upd va (Int32.toNatClampNeg a) (vp_nar .boolean o18)) (upd de (Int32.toNatClampNeg a) 1) (upd lo (Int32.toNatClampNeg a) 1) (a + 1) ops b) 3).bind fun o23 => K (o23, nI k + 1)))))))))))) := rfl
  have h22 : Int32.toNatClampNeg (22 : Int32) = 22 := by decide
  rw [body, e, ix_nI (show 23 + k < 173 by omega) (by decide), cl (23 + k) (by omega), ek, h22, if_neg e22]
theorem joinAll_of {j N2 : Nat} {X Y : Md} {p : Int32} (hN2 : 5000 ≤ N2) (hj : j ≤ 60) (h : ∀ (q : Nat) (V0 : Md) (m : Nat), lp (b_X6_joinAll_0 q V0 p) (j + 1 + m) X = some Y) : f_X6_joinAll N2 X p = some Y := by
  unfold f_X6_joinAll
  obtain ⟨m, rfl⟩ : ∃ m, N2 = j + 1 + m := ⟨N2 - j - 1, by omega⟩
  exact h _ _ m
theorem Inv_push {T : Fn} {s k w f n d : Nat} {wt fr va de lo ops : Fn} {R : Ru} {M : Md} {c : Int32} (hS : Sim s w f n wt fr R va de lo ops) (h1 : n + ct gj wt w = ct gn T k) (h2 : ct gp wt w = d) (h3 : f + w ≤ k) (h4 : R.2.2.2.2.2 = lmt T k) (hc : c = 33 ∨ c = 38 ∨ c = 124 ∨ c = 40) (hT : T k = c) (hf : f = ct gb wt w + gb c) : Inv T s (k + 1) 1 (d + gp c) ((upd wt w c, fr, nI (w + 1), nI f), R) (sq M va de lo (nI f) (upd ops w c) (nI (w + 1))) M := by
  have q : gn c = gj c ∧ lmb c = 0 := by
    rcases hc with rfl | rfl | rfl | rfl <;> exact ⟨by decide, by decide +kernel⟩
  refine ⟨w + 1, f, n, 0, upd wt w c, fr, R, va, de, lo, upd ops w c, rfl, Sim_push hS hc, ?_, ?_, by omega, ?_, by omega, .inl ⟨rfl, ?_, rfl⟩⟩
  · rw [ct_up1]
    show _ = ct gn T k + gn (T k)
    rw [hT, q.1]; omega
  · rw [ct_up1, h2]
  · show _ = lmt T k ||| lmb (T k)
    rw [hT, q.2, h4]; simp
  · rw [ct_up1]; exact hf
theorem st_122 {c : Int32} (h : c = 38 ∨ c = 124) : st c = 1 ∨ st c = 2 ∨ st c = 3 := by
  rcases h with rfl | rfl
  · exact .inr (.inl (by decide))
  · exact .inl (by decide)
theorem st_40 {c : Int32} (hk : c = 33 ∨ c = 38 ∨ c = 124 ∨ c = 40) (h : st c < 1) : c = 40 := by
  rcases hk with rfl | rfl | rfl | rfl
  · exact absurd h (by decide)
  · exact absurd h (by decide)
  · exact absurd h (by decide)
  · rfl
theorem addLetter_ok {R : Ru} {c : Int32} {n : Nat} (e : R.2.2.2.2.1 = nI n) (hn : n < 60) (hL : isL c) : f_X3_addLetter R c = some (nI n, app (R.1, R.2.1, R.2.2.1, R.2.2.2.1, R.2.2.2.2.1, R.2.2.2.2.2 ||| lmk c) c 0 0 1 n) := by
  obtain ⟨o, o1, o2⟩ := letnum hL R
  unfold f_X3_addLetter
  rw [o1, Option.bind_some, o2, add_ok (R := (R.1, R.2.1, R.2.2.1, R.2.2.2.1, R.2.2.2.2.1, R.2.2.2.2.2 ||| lmk c)) e hn (nar_ok (.inr (.inr (.inr (.inr hL))))), Option.bind_some]
theorem take_step {T : Fn} {s k wa d wa' d' N N2 : Nat} {S : Rd × Ru} {A M : Md} (hN : 5000 ≤ N) (hN2 : 5000 ≤ N2) (hs : s < 256) (hk : k < 60) (hI : Inv T s k wa d S A M) (hg : grs (T k) wa d = some (wa', d')) (e22 : ¬ M.1 22 ≤ nI k) (ek : M.1 (23 + k) = T k) :
    ∃ (S' : Rd × Ru) (A' : Md), f_X2_take N S.1 S.2 (T k) = some S' ∧ (∀ (V : Md) K, b_X6_workOut_12 N2 V (nI s) K (A, nI k) = K (A', nI (k + 1))) ∧ Inv T s (k + 1) wa' d' S' A' M := by
  obtain ⟨w, f, n, j, wt, fr, R, va, de, lo, ops, rfl, hS, h1, h2, h3, h4, h5, hD⟩ := hI
  have hcn := ct_gn T k
  unfold grs at hg
  by_cases c40 : T k = 40
  · rw [if_pos c40] at hg
    by_cases hw : wa = 1
    · rw [if_pos hw] at hg
      obtain ⟨rfl, rfl⟩ := Prod.mk.inj (Option.some.inj hg)
      rcases hD with ⟨_, hf, rfl⟩ | ⟨hw0, _⟩
      · refine ⟨_, _, ?_, fun V K => ?_, Inv_push (c := 40) hS h1 h2 h3 h4 (.inr (.inr (.inr rfl))) c40 (by rw [show gb 40 = 0 from by decide]; exact hf)⟩
        · unfold f_X2_take b_X2_take_110
          rw [c40, if_neg (show ¬ (40 : Int32) = 33 by decide), if_neg (show ¬ (40 : Int32) = 38 by decide), if_pos rfl, keepWaiting_ok _ _ _ _ (by omega) (by decide), Option.bind_some]
        · rw [wo_body hk e22 ek, c40, if_neg (show ¬ (40 : Int32) = 33 by decide), if_pos rfl, push_ok _ _ _ _ _ _ _ (by omega), Option.bind_some, nI_1]
      · omega
    · rw [if_neg hw] at hg; cases hg
  rw [if_neg c40] at hg
  by_cases c33 : T k = 33
  · rw [if_pos c33] at hg
    by_cases hw : wa = 1
    · rw [if_pos hw] at hg
      obtain ⟨rfl, rfl⟩ := Prod.mk.inj (Option.some.inj hg)
      rcases hD with ⟨_, hf, rfl⟩ | ⟨hw0, _⟩
      · refine ⟨_, _, ?_, fun V K => ?_, Inv_push (c := 33) hS h1 h2 h3 h4 (.inl rfl) c33 (by rw [show gb 33 = 0 from by decide]; exact hf)⟩
        · unfold f_X2_take b_X2_take_110
          rw [c33, if_pos rfl, keepWaiting_ok _ _ _ _ (by omega) (by decide), Option.bind_some]
        · rw [wo_body hk e22 ek, c33, if_pos rfl, push_ok _ _ _ _ _ _ _ (by omega), Option.bind_some, nI_1]
      · omega
    · rw [if_neg hw] at hg; cases hg
  rw [if_neg c33] at hg
  by_cases c41 : T k = 41
  · rw [if_pos c41] at hg
    by_cases hw : wa = 0 ∧ 0 < d
    · rw [if_pos hw] at hg
      obtain ⟨rfl, rfl⟩ := Prod.mk.inj (Option.some.inj hg)
      rcases hD with ⟨hw0, _⟩ | ⟨_, hf, hn1, hr, hd⟩
      · omega
      · obtain ⟨w', f', n', fr', R', va', de', lo', g1, g2, g3, g4, g5, g6, g7, g8, g9, g10, g11, g12⟩ := join_from (M := M) (p0 := 1) (.inl rfl) hN hN2 h5 hS (by omega) hf (by omega) hn1 hr hd
        have hw' : w' ≠ 0 := by
          intro z
          subst z
          have : ct gp wt 0 = 0 := rfl
          omega
        obtain ⟨v, rfl⟩ : ∃ v, w' = v + 1 := ⟨w' - 1, by omega⟩
        have hv40 : wt v = 40 := st_40 (g5.2.1 v (by omega)).2 (g6.resolve_left hw')
        have y1 : ct gp wt (v + 1) = ct gp wt v + 1 := by
          show ct gp wt v + gp (wt v) = _
          rw [hv40]; rfl
        have y2 : ct gj wt (v + 1) = ct gj wt v := by
          show ct gj wt v + gj (wt v) = _
          rw [hv40]; rfl
        have y3 : ct gb wt (v + 1) = ct gb wt v := by
          show ct gb wt v + gb (wt v) = _
          rw [hv40]; rfl
        obtain ⟨j2, w2, f2, n2, fr2, R2, va2, de2, lo2, q1, q2, q3, q4, q5, q6, q7, q8, q9, q10, q11, q12, q13⟩ := joins (M := M) (p0 := 3) (.inr (.inr rfl)) v f' n' fr' R' va' de' lo' (Sim_pop g5) (by omega) (by omega) (by omega) g10 g11
        refine ⟨((wt, fr', nI v, nI f'), R'), sq M va2 de2 lo2 (nI f2) ops (nI w2), ?_, fun V K => ?_, w2, f2, n2, j2, wt, fr2, R2, va2, de2, lo2, ops, rfl, q6, ?_, by omega, by omega, ?_, by omega, .inr ⟨rfl, q9, q11, q12, fun p q V0 R0 m hp => q4 p q V0 R0 m hp⟩⟩
        · unfold f_X2_take b_X2_take_110
          rw [c41, if_neg (show ¬ (41 : Int32) = 33 by decide), if_neg (show ¬ (41 : Int32) = 38 by decide), if_neg (show ¬ (41 : Int32) = 40 by decide), if_pos rfl, g3, Option.bind_some]
          dsimp only
          rw [nI_pred]
          by_cases v0 : v = 0
          · subst v0; rfl
          · rw [if_pos (show 0 < nI v from nI_lt (a := 0) (by omega) (by omega))]
        · rw [wo_body hk e22 ek, c41, if_neg (show ¬ (41 : Int32) = 33 by decide), if_neg (show ¬ (41 : Int32) = 40 by decide), if_pos rfl, g4, Option.bind_some]
          have e1 := joinAll_of (p := 3) hN2 (by omega) q5
          show ((f_X6_joinAll N2 (sq M va' de' lo' (nI f') ops (nI (v + 1) - 1)) 3).bind fun o27 => K (o27, nI k + 1)) = _
          rw [nI_pred, e1, Option.bind_some, nI_1]
        · show _ = ct gn T k + gn (T k)
          rw [c41, show gn 41 = 0 from by decide]; omega
        · show _ = lmt T k ||| lmb (T k)
          rw [c41, show lmb 41 = 0 from by decide +kernel, q13, g12, h4]; simp
    · rw [if_neg hw] at hg; cases hg
  rw [if_neg c41] at hg
  by_cases c2 : T k = 38 ∨ T k = 124
  · rw [if_pos c2] at hg
    by_cases hw : wa = 0
    · rw [if_pos hw] at hg
      obtain ⟨rfl, rfl⟩ := Prod.mk.inj (Option.some.inj hg)
      rcases hD with ⟨hw0, _⟩ | ⟨_, hf, hn1, hr, hd⟩
      · omega
      · obtain ⟨w', f', n', fr', R', va', de', lo', g1, g2, g3, g4, g5, g6, g7, g8, g9, g10, g11, g12⟩ := join_from (M := M) (p0 := st (T k)) (st_122 c2) hN hN2 h5 hS (by omega) hf (by omega) hn1 hr hd
        have hgb : gb (T k) = 1 := by unfold gb; rw [if_pos c2]
        have hgp : gp (T k) = 0 := by unfold gp; rw [if_neg c40]
        have fin := Inv_push (M := M) (c := T k) (d := d) g5 (g7.trans h1) (g9.trans h2) (by omega) (g12.trans h4) (.inr (c2.elim .inl (fun z => .inr (.inl z)))) rfl (by rw [hgb]; exact g8)
        rw [hgp] at fin
        refine ⟨_, _, ?_, fun V K => ?_, fin⟩
        · have nk : vp_nar .char (T k) = T k := nar_ok (.inr (c2.elim .inl (fun z => .inr (.inl z))))
          unfold f_X2_take b_X2_take_110
          rw [if_neg c33, if_neg c40, if_neg c41, st_c, Option.bind_some, g3, Option.bind_some, keepWaiting_ok _ _ _ _ (by omega) nk, Option.bind_some]
          rcases c2 with z | z
          · rw [if_pos z]
          · rw [if_neg (by rw [z]; decide), if_pos z]
        · rw [wo_body hk e22 ek, if_neg c33, if_neg c40, if_neg c41, st_m, Option.bind_some, g4, Option.bind_some, push_ok _ _ _ _ _ _ _ (by omega), Option.bind_some, nI_1]
          rcases c2 with z | z
          · rw [if_pos z]
          · rw [if_neg (by rw [z]; decide), if_pos z]
    · rw [if_neg hw] at hg; cases hg
  rw [if_neg c2] at hg
  by_cases cl1 : f_X6_isLetter (T k) = some 1
  · rw [if_pos cl1] at hg
    by_cases hw : wa = 1
    · rw [if_pos hw] at hg
      obtain ⟨rfl, rfl⟩ := Prod.mk.inj (Option.some.inj hg)
      rcases hD with ⟨_, hf, rfl⟩ | ⟨hw0, _⟩
      · have hL := isL_of cl1
        obtain ⟨lv1, lv2, -⟩ := letter_val hL hs
        have hS1 := Sim_letter (l := R.2.2.2.2.2 ||| lmk (T k)) hs (show n < 60 by omega) hL hS
        obtain ⟨j2, w2, f2, n2, fr2, R2, va2, de2, lo2, q1, q2, q3, q4, q5, q6, q7, q8, q9, q10, q11, q12, q13⟩ := joins (M := M) (p0 := 3) (.inr (.inr rfl)) w (f + 1) (n + 1) _ _ _ _ _ hS1 (by omega) (by omega) (by omega) (by omega) (by rw [Nat.add_sub_cancel, Nat.add_sub_cancel, upd_e rfl])
        refine ⟨_, _, ?_, fun V K => ?_, w2, f2, n2, j2, wt, fr2, R2, va2, de2, lo2, ops, rfl, q6, ?_, by omega, by omega, ?_, by omega, .inr ⟨rfl, q9, q11, q12, fun p q V0 R0 m hp => q4 p q V0 R0 m hp⟩⟩
        · unfold f_X2_take b_X2_take_110
          rw [if_neg c33, if_neg (fun z => c2 (.inl z)), if_neg c40, if_neg c41, if_neg (fun z => c2 (.inr z)), addLetter_ok hS.1 (by omega) hL, Option.bind_some]
          dsimp only
          rw [keepFree_ok _ _ _ _ (by omega), Option.bind_some]
        · rw [wo_body hk e22 ek, if_neg c33, if_neg c40, if_neg c41, if_neg (fun z => c2 (.inl z)), if_neg (fun z => c2 (.inr z)), lv1, Option.bind_some, ix_nI (show f < 64 by omega) (by decide), ix_nI (show f < 64 by omega) (by decide), ix_nI (show f < 64 by omega) (by decide), cl f (by omega), bool_ok lv2, nI_1, nI_1, joinAll_of (p := 3) hN2 (by omega) q5, Option.bind_some]
        · show _ = ct gn T k + gn (T k)
          rw [show gn (T k) = 1 from by unfold gn; rw [if_neg c40, if_neg c41]]; omega
        · show _ = lmt T k ||| lmb (T k)
          rw [show lmb (T k) = lmk (T k) from by unfold lmb; rw [if_pos cl1], q13, ← h4]
          rfl
      · omega
    · rw [if_neg hw] at hg; cases hg
  · rw [if_neg cl1] at hg; cases hg
