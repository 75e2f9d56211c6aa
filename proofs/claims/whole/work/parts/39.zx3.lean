/-! joinings in a row, on both sides -/
def ct (g : Int32 → Nat) (A : Fn) : Nat → Nat
  | 0 => 0
  | k + 1 => ct g A k + g (A k)
theorem ct_upd (g : Int32 → Nat) (A : Fn) (x : Nat) (c : Int32) : ∀ k, k ≤ x → ct g (upd A x c) k = ct g A k
  | 0, _ => rfl
  | k + 1, h => by
    show ct g (upd A x c) k + g (upd A x c k) = ct g A k + g (A k)
    rw [ct_upd g A x c k (by omega), upd_n (by omega)]
theorem ct_up1 (g : Int32 → Nat) (A : Fn) (x : Nat) (c : Int32) : ct g (upd A x c) (x + 1) = ct g A x + g c := by
  show ct g (upd A x c) x + g (upd A x c x) = _
  rw [ct_upd g A x c x (Nat.le_refl _), upd_e rfl]
def st (c : Int32) : Int32 := if c = 33 then 3 else if c = 38 then 2 else if c = 124 then 1 else 0
theorem st_c (V : Rd) (c : Int32) : f_X2_strength V c = some (st c) := by
  unfold f_X2_strength st
  repeat' split
  all_goals rfl
theorem st_m (c : Int32) : f_X6_strength c = some (st c) := by
  unfold f_X6_strength b_X6_strength_31 st
  repeat' split
  all_goals rfl
theorem jw_go {q : Nat} {V0 : Rd} {R0 R R' : Ru} {p : Int32} {wt fr fr' : Fn} {w f f' : Nat} (hw : w < 60) (hs : ¬ st (wt w) < p) (hj : f_X2_joinFree (wt, fr, nI (w + 1), nI f) R (wt w) = some ((wt, fr', nI (w + 1), nI f'), R')) (K) : b_X2_joinWaiting_0 q V0 R0 p K ((wt, fr, nI (w + 1), nI f), R) = K ((wt, fr', nI w, nI f'), R') := by
  unfold b_X2_joinWaiting_0
  refine (if_neg (show ¬ nI (w + 1) ≤ 0 from nI_nle (by omega) (by omega))).trans ?_
  dsimp only
  rw [nI_pred, ix_nI hw (by decide), cl w (by omega), st_c, Option.bind_some, if_neg hs, ix_nI hw (by decide), hj, Option.bind_some]
  dsimp only
  rw [nI_pred]
theorem jw_stop {q : Nat} {V0 : Rd} {R0 R : Ru} {p : Int32} {wt fr : Fn} {w f : Nat} (hw : w ≤ 60) (hs : w = 0 ∨ st (wt (w - 1)) < p) (K) : b_X2_joinWaiting_0 q V0 R0 p K ((wt, fr, nI w, nI f), R) = some ((wt, fr, nI w, nI f), R) := by
  unfold b_X2_joinWaiting_0 b_X2_joinWaiting_55
  by_cases w0 : w = 0
  · subst w0
    exact if_pos (show nI 0 ≤ 0 by decide)
  · obtain ⟨v, rfl⟩ : ∃ v, w = v + 1 := ⟨w - 1, by omega⟩
    refine (if_neg (show ¬ nI (v + 1) ≤ 0 from nI_nle (by omega) (by omega))).trans ?_
    dsimp only
    rw [nI_pred, ix_nI (show v < 60 by omega) (by decide), cl v (by omega), st_c, Option.bind_some, if_pos (show st (wt v) < p from hs.resolve_left w0)]
theorem ja_go {q : Nat} {V0 M M2 : Md} {p : Int32} {va de lo ops : Fn} {w f : Nat} (hw : w < 60) (hs : ¬ st (ops w) < p) (hj : f_X6_join (sq M va de lo (nI f) ops (nI (w + 1))) = some M2) (K) : b_X6_joinAll_0 q V0 p K (sq M va de lo (nI f) ops (nI (w + 1))) = K M2 := by
  unfold b_X6_joinAll_0
  refine (if_neg (show ¬ nI (w + 1) ≤ 0 from nI_nle (by omega) (by omega))).trans ?_
  rw [show (sq M va de lo (nI f) ops (nI (w + 1))).2.2.2.2.2.2.2.2.2.2.2.2.2 = nI (w + 1) from rfl, show (sq M va de lo (nI f) ops (nI (w + 1))).2.2.2.2.2.2.2.2.2.2.2.2.1 = ops from rfl, nI_pred, ix_nI (show w < 64 by omega) (by decide), cl w (by omega), st_m, Option.bind_some, if_neg hs, hj, Option.bind_some]
theorem ja_stop {q : Nat} {V0 M : Md} {p : Int32} {va de lo ops : Fn} {w f : Nat} (hw : w ≤ 60) (hs : w = 0 ∨ st (ops (w - 1)) < p) (K) : b_X6_joinAll_0 q V0 p K (sq M va de lo (nI f) ops (nI w)) = some (sq M va de lo (nI f) ops (nI w)) := by
  unfold b_X6_joinAll_0 b_X6_joinAll_32
  by_cases w0 : w = 0
  · subst w0
    exact if_pos (show nI 0 ≤ 0 by decide)
  · obtain ⟨v, rfl⟩ : ∃ v, w = v + 1 := ⟨w - 1, by omega⟩
    refine (if_neg (show ¬ nI (v + 1) ≤ 0 from nI_nle (by omega) (by omega))).trans ?_
    rw [show (sq M va de lo (nI f) ops (nI (v + 1))).2.2.2.2.2.2.2.2.2.2.2.2.2 = nI (v + 1) from rfl, show (sq M va de lo (nI f) ops (nI (v + 1))).2.2.2.2.2.2.2.2.2.2.2.2.1 = ops from rfl, nI_pred, ix_nI (show v < 64 by omega) (by decide), cl v (by omega), st_m, Option.bind_some, if_pos (show st (ops v) < p from hs.resolve_left w0)]
theorem joins {s : Nat} {M : Md} {p0 : Int32} (hp : p0 = 1 ∨ p0 = 2 ∨ p0 = 3) {wt ops : Fn} : ∀ (w f n : Nat) (fr : Fn) (R : Ru) (va de lo : Fn), Sim s w f n wt fr R va de lo ops → n + ct gj wt w ≤ 60 → f = ct gb wt w + 1 → f + w ≤ 60 → 1 ≤ n → fr (f - 1) = nI (n - 1) →
    ∃ (j w' f' n' : Nat) (fr' : Fn) (R' : Ru) (va' de' lo' : Fn), j ≤ w ∧ w' ≤ w ∧ f' + w' ≤ f + w ∧
      (∀ (p : Int32) (q : Nat) (V0 : Rd) (R0 : Ru) (m : Nat), p ≤ p0 → lp (b_X2_joinWaiting_0 q V0 R0 p) (j + m) ((wt, fr, nI w, nI f), R) = lp (b_X2_joinWaiting_0 q V0 R0 p) m ((wt, fr', nI w', nI f'), R')) ∧
      (∀ (q : Nat) (V0 : Md) (m : Nat), lp (b_X6_joinAll_0 q V0 p0) (j + 1 + m) (sq M va de lo (nI f) ops (nI w)) = some (sq M va' de' lo' (nI f') ops (nI w'))) ∧
      Sim s w' f' n' wt fr' R' va' de' lo' ops ∧ (w' = 0 ∨ st (wt (w' - 1)) < p0) ∧ n' + ct gj wt w' = n + ct gj wt w ∧ f' = ct gb wt w' + 1 ∧ ct gp wt w' = ct gp wt w ∧ 1 ≤ n' ∧ fr' (f' - 1) = nI (n' - 1) ∧ R'.2.2.2.2.2 = R.2.2.2.2.2 := by
  have h40 : st 40 < p0 := by rcases hp with rfl | rfl | rfl <;> decide
  have stop : ∀ (w f n : Nat) (fr : Fn) (R : Ru) (va de lo : Fn), Sim s w f n wt fr R va de lo ops → f = ct gb wt w + 1 → f + w ≤ 60 → 1 ≤ n → fr (f - 1) = nI (n - 1) → (w = 0 ∨ st (wt (w - 1)) < p0) →
    ∃ (j w' f' n' : Nat) (fr' : Fn) (R' : Ru) (va' de' lo' : Fn), j ≤ w ∧ w' ≤ w ∧ f' + w' ≤ f + w ∧
      (∀ (p : Int32) (q : Nat) (V0 : Rd) (R0 : Ru) (m : Nat), p ≤ p0 → lp (b_X2_joinWaiting_0 q V0 R0 p) (j + m) ((wt, fr, nI w, nI f), R) = lp (b_X2_joinWaiting_0 q V0 R0 p) m ((wt, fr', nI w', nI f'), R')) ∧
      (∀ (q : Nat) (V0 : Md) (m : Nat), lp (b_X6_joinAll_0 q V0 p0) (j + 1 + m) (sq M va de lo (nI f) ops (nI w)) = some (sq M va' de' lo' (nI f') ops (nI w'))) ∧
      Sim s w' f' n' wt fr' R' va' de' lo' ops ∧ (w' = 0 ∨ st (wt (w' - 1)) < p0) ∧ n' + ct gj wt w' = n + ct gj wt w ∧ f' = ct gb wt w' + 1 ∧ ct gp wt w' = ct gp wt w ∧ 1 ≤ n' ∧ fr' (f' - 1) = nI (n' - 1) ∧ R'.2.2.2.2.2 = R.2.2.2.2.2 := by
    intro w f n fr R va de lo hS hf hfw h1 hr hst
    refine ⟨0, w, f, n, fr, R, va, de, lo, Nat.zero_le _, Nat.le_refl _, Nat.le_refl _, fun p q V0 R0 m _ => by rw [Nat.zero_add], fun q V0 m => ?_, hS, hst, rfl, hf, rfl, h1, hr, rfl⟩
    rw [show 0 + 1 + m = m + 1 from by omega]
    refine ja_stop (by omega) ?_ _
    rcases hst with z | z
    · exact .inl z
    · by_cases w0 : w = 0
      · exact .inl w0
      · rw [← (hS.2.1 (w - 1) (by omega)).1]; exact .inr z
  intro w
  induction w with
  | zero => intro f n fr R va de lo hS hn hf hfw h1 hr; exact stop 0 f n fr R va de lo hS hf hfw h1 hr (.inl rfl)
  | succ w ih =>
    intro f n fr R va de lo hS hn hf hfw h1 hr
    by_cases hst : st (wt w) < p0
    · exact stop (w + 1) f n fr R va de lo hS hf hfw h1 hr (.inr hst)
    · have hc : wt w ≠ 40 := fun z => by rw [z] at hst; exact hst h40
      have cj : ct gj wt (w + 1) = ct gj wt w + 1 := by
        show ct gj wt w + gj (wt w) = _
        unfold gj
        rw [if_neg hc]
      have cb : ct gb wt (w + 1) = ct gb wt w + gb (wt w) := rfl
      have cp : ct gp wt (w + 1) = ct gp wt w := by
        show ct gp wt w + gp (wt w) = _
        unfold gp
        rw [if_neg hc, Nat.add_zero]
      obtain ⟨fr1, R1, va1, de1, lo1, f1, e1, e2, e3, e4, e5, e6⟩ := join_1 M hS (by omega) (by omega) (by omega) hc (by omega)
      obtain ⟨j, w', f', n', fr', R', va', de', lo', g1, g2, g3, g4, g5, g6, g7, g8, g9, g10, g11, g12, g13⟩ := ih f1 (n + 1) fr1 R1 va1 de1 lo1 e4 (by omega) (by omega) (by omega) (by omega) (by rw [e5, Nat.add_sub_cancel])
      refine ⟨j + 1, w', f', n', fr', R', va', de', lo', by omega, by omega, by omega, fun p q V0 R0 m hp0 => ?_, fun q V0 m => ?_, g6, g7, by omega, g9, by omega, g11, g12, by rw [g13, e6]⟩
      · rw [show j + 1 + m = j + m + 1 from by omega]
        refine (jw_go (by omega) (fun z => hst ?_) e2 _).trans (g4 p q V0 R0 m hp0)
        rw [z_lt] at z ⊢
        rw [z_le] at hp0
        omega
      · rw [show j + 1 + 1 + m = j + 1 + m + 1 from by omega]
        refine (ja_go (by omega) ?_ e3 _).trans (g5 q V0 m)
        rw [← (hS.2.1 w (by omega)).1]; exact hst
