/-! one joining, on both sides -/
def sq (M : Md) (va de lo : Fn) (nv : Int32) (ops : Fn) (no : Int32) : Md := (M.1, M.2.1, M.2.2.1, M.2.2.2.1, M.2.2.2.2.1, M.2.2.2.2.2.1, M.2.2.2.2.2.2.1, M.2.2.2.2.2.2.2.1, va, de, lo, nv, ops, no)
theorem bool_ok {v : Int32} (h : v = 0 ∨ v = 1) : vp_nar .boolean v = v := by
  rcases h with rfl | rfl <;> decide
theorem join_33 (M : Md) (va de lo ops : Fn) {w f : Nat} (hw : w < 60) (hf : f < 60) (ho : ops w = 33) : f_X6_join (sq M va de lo (nI (f + 1)) ops (nI (w + 1))) = some (sq M (upd va f (if va f = 0 then 1 else 0)) (upd de f (de f + 1)) (upd lo f (lo f + 1)) (nI (f + 1)) ops (nI w)) := by
  unfold f_X6_join b_X6_join_52 sq
  dsimp only
  rw [nI_pred, nI_pred, ix_nI (show w < 64 by omega) (by decide), cl w (by omega), if_pos ho, ix_nI (show f < 64 by omega) (by decide), cl f (by omega)]
  simp only [ix_nI (α := Md) (show f < 64 by omega) (show 64 < 2 ^ 31 by decide), bool_ok (.inl rfl), bool_ok (.inr rfl)]
  by_cases c : va f = 0
  · rw [if_pos c, if_pos c]
  · rw [if_neg c, if_neg c]
theorem join_sq (M : Md) (va de lo ops : Fn) (a b : Int32) : f_X6_join (sq M va de lo a ops b) = ix (b - 1) 64 (if ops (Int32.toNatClampNeg (b - 1)) = 33 then ix (a - 1) 64 (if va (Int32.toNatClampNeg (a - 1)) = 0 then b_X6_join_52 (sq M va de lo a ops b) (sq M va de lo a ops (b - 1), a - 1, a - 1, 1) else b_X6_join_52 (sq M va de lo a ops b) (sq M va de lo a ops (b - 1), a - 1, a - 1, 0)) else ix (a - 1 - 1) 64 (if ops (Int32.toNatClampNeg (b - 1)) = 38 then b_X6_join_95 (sq M va de lo a ops b) (sq M va de lo a ops (b - 1), a - 1, a - 1 - 1, va (Int32.toNatClampNeg (a - 1 - 1)), 1) else b_X6_join_95 (sq M va de lo a ops b) (sq M va de lo a ops (b - 1), a - 1, a - 1 - 1, va (Int32.toNatClampNeg (a - 1 - 1)), 0))) := rfl
theorem join_2 (M : Md) (va de lo ops : Fn) {w f : Nat} (hw : w < 60) (hf : f < 60) (ho : ops w ≠ 33) (h0 : va f = 0 ∨ va f = 1) (h1 : va (f + 1) = 0 ∨ va (f + 1) = 1) :
    f_X6_join (sq M va de lo (nI (f + 2)) ops (nI (w + 1))) = some (sq M (upd va f (if va f = (if ops w = 38 then 1 else 0) then va (f + 1) else va f)) (upd de f (1 + (if de f ≤ de (f + 1) then de (f + 1) else de f))) (upd lo f (lo f + (1 + (if va f = (if ops w = 38 then 1 else 0) then lo (f + 1) else 0)))) (nI (f + 1)) ops (nI w)) := by
  have p2 : nI (f + 2) - 1 = nI (f + 1) := nI_pred (f + 1)
  have k1 : ¬ (1 : Int32) = 0 := by decide
  have main : ∀ z : Int32, b_X6_join_95 (sq M va de lo (nI (f + 2)) ops (nI (w + 1))) (sq M va de lo (nI (f + 2)) ops (nI w), nI (f + 1), nI f, va f, z) = some (sq M (upd va f (if va f = z then va (f + 1) else va f)) (upd de f (1 + (if de f ≤ de (f + 1) then de (f + 1) else de f))) (upd lo f (lo f + (1 + (if va f = z then lo (f + 1) else 0)))) (nI (f + 1)) ops (nI w)) := by
    intro z
    unfold b_X6_join_95 b_X6_join_103 b_X6_join_128 b_X6_join_156 b_X6_join_193 sq
    dsimp only
    simp only [ix_nI (α := Md) (show f < 64 by omega) (show 64 < 2 ^ 31 by decide), ix_nI (α := Md) (show f + 1 < 64 by omega) (show 64 < 2 ^ 31 by decide), cl f (show f < 2 ^ 31 by omega), cl (f + 1) (show f + 1 < 2 ^ 31 by omega), bool_ok h0, bool_ok h1, p2]
    by_cases c : va f = z
    · by_cases d : de f ≤ de (f + 1)
      · simp only [if_pos c, if_pos d, if_neg k1]
      · simp only [if_pos c, if_neg d, if_neg k1]
    · by_cases d : de f ≤ de (f + 1)
      · simp only [if_neg c, if_pos d, if_true]
      · simp only [if_neg c, if_neg d, if_true]
  have e : f_X6_join (sq M va de lo (nI (f + 2)) ops (nI (w + 1))) = if ops w = 38 then b_X6_join_95 (sq M va de lo (nI (f + 2)) ops (nI (w + 1))) (sq M va de lo (nI (f + 2)) ops (nI w), nI (f + 1), nI f, va f, 1) else b_X6_join_95 (sq M va de lo (nI (f + 2)) ops (nI (w + 1))) (sq M va de lo (nI (f + 2)) ops (nI w), nI (f + 1), nI f, va f, 0) := by
    rw [join_sq, nI_pred, p2, nI_pred, ix_nI (show w < 64 by omega) (by decide), cl w (by omega), if_neg ho, ix_nI (show f < 64 by omega) (by decide), cl f (by omega)]
  rw [e]
  by_cases c : ops w = 38
  · rw [if_pos c, main, if_pos c]
  · rw [if_neg c, main, if_neg c]
def Sim (s w f n : Nat) (wt fr : Fn) (R : Ru) (va de lo ops : Fn) : Prop :=
  R.2.2.2.2.1 = nI n ∧ (∀ i, i < w → wt i = ops i ∧ (wt i = 33 ∨ wt i = 38 ∨ wt i = 124 ∨ wt i = 40)) ∧ treeOK R n ∧
  ∃ F : Nat → Nat, ∀ k, k < f → F k < n ∧ fr k = nI (F k) ∧ va k = hv R (nI s) n (F k) ∧ (va k = 0 ∨ va k = 1) ∧ de k = R.2.2.2.1 (F k) ∧ lo k = nI (lk R (hv R (nI s) n) n (F k)) ∧ nopar R n (F k) ∧ ∀ k', k' < f → F k = F k' → k = k'
def gj (c : Int32) : Nat := if c = 40 then 0 else 1
def gb (c : Int32) : Nat := if c = 38 ∨ c = 124 then 1 else 0
def gp (c : Int32) : Nat := if c = 40 then 1 else 0
theorem depthOf_ok {R : Ru} {n i : Nat} (e : R.2.2.2.2.1 = nI n) (hn : n ≤ 60) (hi : i < n) : f_X3_depthOf R (nI i) = some (R.2.2.2.1 i) := by
  unfold f_X3_depthOf b_X3_depthOf_28
  rw [if_neg (nI_pos (by omega)), e, if_neg (nI_ge hi (by omega)), if_neg (show ¬ (60 : Int32) ≤ nI i from nI_ge (b := 60) (by omega) (by decide)), ix_nI (show i < 60 by omega) (by decide), cl i (by omega)]
theorem takeFree_ok (wt fr : Fn) (a : Int32) {f : Nat} (hf : f < 60) : f_X2_takeFree (wt, fr, a, nI (f + 1)) = some (fr f, (wt, fr, a, nI f)) := by
  unfold f_X2_takeFree
  dsimp only
  rw [if_neg (nI_ne0 (by omega) (by omega)), nI_pred, ix_nI hf (by decide), cl f (by omega)]
theorem keepFree_ok (wt fr : Fn) (a x : Int32) {f : Nat} (hf : f < 60) : f_X2_keepFree (wt, fr, a, nI f) x = some (wt, upd fr f x, a, nI (f + 1)) := by
  unfold f_X2_keepFree b_X2_keepFree_29
  dsimp only
  rw [if_neg (show ¬ (60 : Int32) ≤ nI f from nI_ge (b := 60) hf (by decide)), ix_nI hf (by decide), cl f (by omega), nI_1]
theorem max_comm' (x y : Int32) : (if x < y then y else x) = (if x ≤ y then y else x) := by
  by_cases c : x < y
  · rw [if_pos c, if_pos (Int32.le_of_lt c)]
  · rw [if_neg c]
    by_cases d : x ≤ y
    · rw [if_pos d]
      rw [z_lt] at c; rw [z_le] at d
      exact Int32.toInt_inj.mp (by omega)
    · rw [if_neg d]
theorem app_1 (R : Ru) (c a b d : Int32) (n : Nat) : (app R c a b d n).1 n = c := upd_e rfl
theorem app_2 (R : Ru) (c a b d : Int32) (n : Nat) : (app R c a b d n).2.1 n = a := upd_e rfl
theorem app_3 (R : Ru) (c a b d : Int32) (n : Nat) : (app R c a b d n).2.2.1 n = b := upd_e rfl
theorem join_1 {s w f n : Nat} {wt fr va de lo ops : Fn} {R : Ru} (M : Md) (h : Sim s (w + 1) f n wt fr R va de lo ops) (hn : n < 60) (hf : f ≤ 60) (hw : w < 60) (hc : wt w ≠ 40) (hf2 : gb (wt w) < f) :
    ∃ (fr' : Fn) (R' : Ru) (va' de' lo' : Fn) (f' : Nat), f' + gb (wt w) = f ∧ f_X2_joinFree (wt, fr, nI (w + 1), nI f) R (wt w) = some ((wt, fr', nI (w + 1), nI f'), R') ∧ f_X6_join (sq M va de lo (nI f) ops (nI (w + 1))) = some (sq M va' de' lo' (nI f') ops (nI w)) ∧ Sim s w f' (n + 1) wt fr' R' va' de' lo' ops ∧ fr' (f' - 1) = nI n ∧ R'.2.2.2.2.2 = R.2.2.2.2.2 := by
  obtain ⟨h1, h2, h3, F, h4⟩ := h
  obtain ⟨ho, hk⟩ := h2 w (by omega)
  by_cases c33 : wt w = 33
  · obtain ⟨g, rfl⟩ : ∃ g, f = g + 1 := ⟨f - 1, by omega⟩
    obtain ⟨q1, q2, q3, q4, q5, q6, q7, q8⟩ := h4 g (by omega)
    have hgb : gb (wt w) = 0 := by rw [c33]; decide
    obtain ⟨t1, t2, t3, t4, t5, t6, t7⟩ := app_ok (s := nI s) (c := 33) (a := nI (F g)) (b := nI (F g)) (d := (1 : Int32) + R.2.2.2.1 (F g)) hn h3 (.inr (.inl ⟨rfl, F g, q1, rfl, rfl, q7⟩))
    refine ⟨upd fr g (nI n), app R 33 (nI (F g)) (nI (F g)) ((1 : Int32) + R.2.2.2.1 (F g)) n, upd va g (if va g = 0 then 1 else 0), upd de g (de g + 1), upd lo g (lo g + 1), g + 1, by rw [hgb], ?_, ?_, ⟨rfl, fun i hi => h2 i (by omega), t1, fun k => if k = g then n else F k, fun k hk => ?_⟩, by rw [Nat.add_sub_cancel, upd_e rfl], rfl⟩
    · unfold f_X2_joinFree b_X2_joinFree_19 f_X3_addJoint
      rw [takeFree_ok _ _ _ (by omega), Option.bind_some, if_pos c33, c33]
      dsimp only
      rw [q2, depthOf_ok h1 (by omega) q1, Option.bind_some, Option.bind_some, if_neg (show ¬ _ < _ from Int32.lt_irrefl), add_ok h1 hn (nar_ok (.inl rfl)), Option.bind_some, Option.bind_some]
      dsimp only
      rw [keepFree_ok _ _ _ _ (show g < 60 by omega), Option.bind_some]
    · exact join_33 M va de lo ops hw (by omega) (by rw [← ho]; exact c33)
    · dsimp only
      by_cases e : k = g
      · subst e
        have hv1 : hv R (nI s) n (F k) = va k := q3.symm
        rw [if_pos rfl, upd_e rfl, upd_e rfl, upd_e rfl, upd_e rfl, t3, t5]
        refine ⟨by omega, rfl, ?_, ?_, ?_, ?_, t7, fun k' hk' hF => ?_⟩
        · unfold pv
          rw [app_1, app_2, if_pos rfl, cl _ (by omega), hv1]
        · by_cases z : va k = 0
          · rw [if_pos z]; exact .inr rfl
          · rw [if_neg z]; exact .inl rfl
        · show _ = upd R.2.2.2.1 n _ n
          rw [upd_e rfl, q5, Int32.add_comm]
        · unfold lk1
          rw [app_1, app_2, if_pos rfl, cl _ (by omega), q6, nI_1, Nat.add_comm]
        · by_cases e2 : k' = k
          · exact e2.symm
          · rw [if_neg e2] at hF
            have := (h4 k' (by omega)).1
            omega
      · obtain ⟨r1, r2, r3, r4, r5, r6, r7, r8⟩ := h4 k (by omega)
        rw [if_neg e, upd_n e, upd_n e, upd_n e, upd_n e, t2 _ r1, t4 _ r1]
        have hne : F k ≠ F g := fun z => e (r8 g (by omega) z)
        have hne2 : nI (F g) ≠ nI (F k) := fun z => hne ((nI_eq (by omega) (by omega)).mp z).symm
        refine ⟨by omega, r2, r3, r4, ?_, r6, t6 _ r1 r7 (.inr ⟨hne2, hne2⟩), fun k' hk' hF => ?_⟩
        · show _ = upd R.2.2.2.1 n _ (F k)
          rw [upd_n (by omega)]; exact r5
        · by_cases e2 : k' = g
          · rw [if_pos e2] at hF; omega
          · rw [if_neg e2] at hF
            exact r8 k' (by omega) hF
  · have hgb : gb (wt w) = 1 := by
      rcases hk with z | z | z | z
      · exact absurd z c33
      · rw [z]; decide
      · rw [z]; decide
      · exact absurd z hc
    have hcc : wt w = 38 ∨ wt w = 124 := by
      rcases hk with z | z | z | z
      · exact absurd z c33
      · exact .inl z
      · exact .inr z
      · exact absurd z hc
    rw [hgb] at hf2
    obtain ⟨g, rfl⟩ : ∃ g, f = g + 2 := ⟨f - 2, by omega⟩
    obtain ⟨q1, q2, q3, q4, q5, q6, q7, q8⟩ := h4 g (by omega)
    obtain ⟨p1, p2, p3, p4, p5, p6, p7, p8⟩ := h4 (g + 1) (by omega)
    have hFne : F g ≠ F (g + 1) := fun z => by have := q8 (g + 1) (by omega) z; omega
    obtain ⟨t1, t2, t3, t4, t5, t6, t7⟩ := app_ok (s := nI s) (c := wt w) (a := nI (F g)) (b := nI (F (g + 1))) (d := (1 : Int32) + (if R.2.2.2.1 (F g) < R.2.2.2.1 (F (g + 1)) then R.2.2.2.1 (F (g + 1)) else R.2.2.2.1 (F g))) hn h3 (.inr (.inr ⟨hcc, F g, F (g + 1), q1, p1, hFne, rfl, rfl, q7, p7⟩))
    refine ⟨upd fr g (nI n), app R (wt w) (nI (F g)) (nI (F (g + 1))) ((1 : Int32) + (if R.2.2.2.1 (F g) < R.2.2.2.1 (F (g + 1)) then R.2.2.2.1 (F (g + 1)) else R.2.2.2.1 (F g))) n, _, _, _, g + 1, by rw [hgb], ?_, join_2 M va de lo ops hw (by omega) (by rw [← ho]; exact c33) q4 p4, ⟨rfl, fun i hi => h2 i (by omega), t1, fun k => if k = g then n else F k, fun k hk => ?_⟩, by rw [Nat.add_sub_cancel, upd_e rfl], rfl⟩
    · unfold f_X2_joinFree b_X2_joinFree_19 f_X3_addJoint
      rw [takeFree_ok (f := g + 1) _ _ _ (by omega), Option.bind_some, if_neg c33]
      dsimp only
      rw [takeFree_ok _ _ _ (by omega), Option.bind_some]
      dsimp only
      rw [q2, p2, depthOf_ok h1 (by omega) q1, Option.bind_some, depthOf_ok h1 (by omega) p1, Option.bind_some, add_ok h1 hn (nar_ok (by
        rcases hcc with z | z
        · exact .inr (.inl z)
        · exact .inr (.inr (.inl z)))), Option.bind_some, Option.bind_some]
      dsimp only
      rw [keepFree_ok _ _ _ _ (show g < 60 by omega), Option.bind_some]
    · dsimp only
      by_cases e : k = g
      · subst e
        have hv1 : hv R (nI s) n (F k) = va k := q3.symm
        have hv2 : hv R (nI s) n (F (k + 1)) = va (k + 1) := p3.symm
        have k1 : ¬ (1 : Int32) = 0 := by decide
        have k01 : ¬ (0 : Int32) = 1 := by decide
        rw [if_pos rfl, upd_e rfl, upd_e rfl, upd_e rfl, upd_e rfl, t3, t5, ← ho]
        refine ⟨by omega, rfl, ?_, ?_, ?_, ?_, t7, fun k' hk' hF => ?_⟩
        · unfold pv
          rw [app_1, app_2, app_3, if_neg c33, cl _ (by omega), cl _ (by omega), hv1, hv2]
          rcases hcc with z | z
          · rw [if_pos z, if_pos z]
            rcases q4 with y | y <;> rcases p4 with x | x <;> rw [y, x] <;> rfl
          · have z' : ¬ wt w = 38 := by rw [z]; decide
            rw [if_neg z', if_neg z', if_pos z]
            rcases q4 with y | y <;> rcases p4 with x | x <;> rw [y, x] <;> rfl
        · by_cases z : va k = (if wt w = 38 then 1 else 0)
          · rw [if_pos z]; exact p4
          · rw [if_neg z]; exact q4
        · show _ = upd R.2.2.2.1 n _ n
          rw [upd_e rfl, q5, p5, max_comm']
        · unfold lk1
          rw [app_1, app_2, app_3, if_neg c33, cl _ (by omega), cl _ (by omega), hv1, q6, p6]
          have A : ∀ x y : Nat, nI x + (1 + nI y) = nI (1 + x + y) := by
            intro x y
            rw [Int32.add_comm 1 (nI y), nI_1, nI_add]
            congr 1; omega
          have B : ∀ x : Nat, nI x + (1 + 0) = nI (1 + x) := by
            intro x
            rw [show (1 : Int32) + 0 = 1 from by decide, nI_1, Nat.add_comm]
          rcases hcc with z | z
          · rw [if_pos z, if_pos z]
            rcases q4 with y | y
            · rw [y, if_neg k01, if_pos rfl, B]
            · rw [y, if_pos rfl, if_neg k1, A]
          · have z' : ¬ wt w = 38 := by rw [z]; decide
            rw [if_neg z', if_neg z', if_pos z]
            rcases q4 with y | y
            · rw [y, if_pos rfl, if_pos rfl, A]
            · rw [y, if_neg k1, if_neg k1, B]
        · by_cases e2 : k' = k
          · exact e2.symm
          · rw [if_neg e2] at hF
            have := (h4 k' (by omega)).1
            omega
      · obtain ⟨r1, r2, r3, r4, r5, r6, r7, r8⟩ := h4 k (by omega)
        rw [if_neg e, upd_n e, upd_n e, upd_n e, upd_n e, t2 _ r1, t4 _ r1]
        have hne : F k ≠ F g := fun z => e (r8 g (by omega) z)
        have hne2 : nI (F g) ≠ nI (F k) := fun z => hne ((nI_eq (by omega) (by omega)).mp z).symm
        have hne3 : F k ≠ F (g + 1) := fun z => by have := r8 (g + 1) (by omega) z; omega
        have hne4 : nI (F (g + 1)) ≠ nI (F k) := fun z => hne3 ((nI_eq (by omega) (by omega)).mp z).symm
        refine ⟨by omega, r2, r3, r4, ?_, r6, t6 _ r1 r7 (.inr ⟨hne2, hne4⟩), fun k' hk' hF => ?_⟩
        · show _ = upd R.2.2.2.1 n _ (F k)
          rw [upd_n (by omega)]; exact r5
        · by_cases e2 : k' = g
          · rw [if_pos e2] at hF; omega
          · rw [if_neg e2] at hF
            exact r8 k' (by omega) hF
