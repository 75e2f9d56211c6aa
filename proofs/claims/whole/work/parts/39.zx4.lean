/-! one sign of the text, on both sides -/
def gn (c : Int32) : Nat := if c = 40 then 0 else if c = 41 then 0 else 1
def lmk (c : Int32) : Int32 := if c < 97 then (16 : Int32) <<< ((c - (65 : Int32)) &&& 31) else (1 : Int32) <<< ((c - (97 : Int32)) &&& 31)
def lmb (c : Int32) : Int32 := if f_X6_isLetter c = some 1 then lmk c else 0
def lmt (T : Fn) : Nat → Int32
  | 0 => 0
  | k + 1 => lmt T k ||| lmb (T k)
def grs (c : Int32) (wa d : Nat) : Option (Nat × Nat) :=
  if c = 40 then (if wa = 1 then some (1, d + 1) else none)
  else if c = 33 then (if wa = 1 then some (1, d) else none)
  else if c = 41 then (if wa = 0 ∧ 0 < d then some (0, d - 1) else none)
  else if c = 38 ∨ c = 124 then (if wa = 0 then some (1, d) else none)
  else if f_X6_isLetter c = some 1 then (if wa = 1 then some (0, d) else none) else none
def gr (T : Fn) : Nat → Option (Nat × Nat)
  | 0 => some (1, 0)
  | k + 1 => (gr T k).bind fun x => grs (T k) x.1 x.2
theorem letnum {c : Int32} (h : isL c) (V : Ru) : ∃ o, f_X3_letterNumber V c = some o ∧ (1 : Int32) <<< (o &&& 31) = lmk c := by
  have key : ∃ o, f_X3_letterNumber R00 c = some o ∧ (1 : Int32) <<< (o &&& 31) = lmk c := by
    rcases h with rfl | rfl | rfl | rfl | rfl | rfl | rfl | rfl
    · exact ⟨4, by decide +kernel, by decide +kernel⟩
    · exact ⟨5, by decide +kernel, by decide +kernel⟩
    · exact ⟨6, by decide +kernel, by decide +kernel⟩
    · exact ⟨7, by decide +kernel, by decide +kernel⟩
    · exact ⟨0, by decide +kernel, by decide +kernel⟩
    · exact ⟨1, by decide +kernel, by decide +kernel⟩
    · exact ⟨2, by decide +kernel, by decide +kernel⟩
    · exact ⟨3, by decide +kernel, by decide +kernel⟩
  exact key
def Inv (T : Fn) (s k wa d : Nat) (S : Rd × Ru) (A M : Md) : Prop :=
  ∃ (w f n j : Nat) (wt fr : Fn) (R : Ru) (va de lo ops : Fn), A = sq M va de lo (nI f) ops (nI w) ∧ Sim s w f n wt fr R va de lo ops ∧ n + ct gj wt w = ct gn T k ∧ ct gp wt w = d ∧ f + w ≤ k ∧ R.2.2.2.2.2 = lmt T k ∧ j ≤ 60 ∧
    ((wa = 1 ∧ f = ct gb wt w ∧ S = ((wt, fr, nI w, nI f), R)) ∨
     (wa = 0 ∧ f = ct gb wt w + 1 ∧ 1 ≤ n ∧ fr (f - 1) = nI (n - 1) ∧ ∀ (p : Int32) (q : Nat) (V0 : Rd) (R0 : Ru) (m : Nat), p ≤ 3 → lp (b_X2_joinWaiting_0 q V0 R0 p) (j + m) S = lp (b_X2_joinWaiting_0 q V0 R0 p) m ((wt, fr, nI w, nI f), R)))
theorem ct_gn (T : Fn) : ∀ k, ct gn T k ≤ k
  | 0 => Nat.le_refl _
  | k + 1 => by
    show ct gn T k + gn (T k) ≤ k + 1
    have := ct_gn T k
    have : gn (T k) ≤ 1 := by unfold gn; repeat' split
                              all_goals omega
    omega
theorem keepWaiting_ok (wt fr : Fn) (a c : Int32) {w : Nat} (hw : w < 60) (hc : vp_nar .char c = c) : f_X2_keepWaiting (wt, fr, nI w, a) c = some (upd wt w c, fr, nI (w + 1), a) := by
  unfold f_X2_keepWaiting b_X2_keepWaiting_29
  dsimp only
  rw [if_neg (show ¬ (60 : Int32) ≤ nI w from nI_ge (b := 60) hw (by decide)), ix_nI hw (by decide), cl w (by omega), nI_1, hc]
theorem push_ok (M : Md) (va de lo ops : Fn) (a c : Int32) {w : Nat} (hw : w < 60) : f_X6_push (sq M va de lo a ops (nI w)) c = some (sq M va de lo a (upd ops w c) (nI (w + 1))) := by
  unfold f_X6_push sq
  dsimp only
  rw [ix_nI (show w < 64 by omega) (by decide), cl w (by omega), nI_1]
theorem Sim_push {s w f n : Nat} {wt fr va de lo ops : Fn} {R : Ru} {c : Int32} (h : Sim s w f n wt fr R va de lo ops) (hc : c = 33 ∨ c = 38 ∨ c = 124 ∨ c = 40) : Sim s (w + 1) f n (upd wt w c) fr R va de lo (upd ops w c) := by
  refine ⟨h.1, fun i hi => ?_, h.2.2⟩
  by_cases e : i = w
  · rw [upd_e e, upd_e e]; exact ⟨rfl, hc⟩
  · rw [upd_n e, upd_n e]; exact h.2.1 i (by omega)
theorem Sim_pop {s w f n : Nat} {wt fr va de lo ops : Fn} {R : Ru} (h : Sim s (w + 1) f n wt fr R va de lo ops) : Sim s w f n wt fr R va de lo ops := ⟨h.1, fun i hi => h.2.1 i (by omega), h.2.2⟩
theorem Sim_letter {s w f n : Nat} {wt fr va de lo ops : Fn} {R : Ru} {c l : Int32} (hs : s < 256) (hn : n < 60) (hc : isL c) (h : Sim s w f n wt fr R va de lo ops) : Sim s w (f + 1) (n + 1) wt (upd fr f (nI n)) (app (R.1, R.2.1, R.2.2.1, R.2.2.2.1, R.2.2.2.2.1, l) c 0 0 1 n) (upd va f (lv c (nI s))) (upd de f 1) (upd lo f 1) ops := by
  obtain ⟨h1, h2, h3, F, h4⟩ := h
  obtain ⟨t1, t2, t3, t4, t5, t6, t7⟩ := app_ok (R := (R.1, R.2.1, R.2.2.1, R.2.2.2.1, R.2.2.2.2.1, l)) (s := nI s) (c := c) (a := 0) (b := 0) (d := 1) hn h3 (.inl ⟨hc, rfl, rfl⟩)
  refine ⟨rfl, h2, t1, fun k => if k = f then n else F k, fun k hk => ?_⟩
  dsimp only
  by_cases e : k = f
  · subst e
    obtain ⟨n1, n2, n3⟩ := isL_ne hc
    rw [if_pos rfl, upd_e rfl, upd_e rfl, upd_e rfl, upd_e rfl, t3, t5]
    refine ⟨by omega, rfl, ?_, (letter_val hc hs).2.1, ?_, ?_, t7, fun k' hk' hF => ?_⟩
    · unfold pv
      rw [app_1, if_neg n1, if_neg n2, if_neg n3]
    · show _ = upd _ n _ n
      rw [upd_e rfl]
    · unfold lk1
      rw [app_1, if_neg n1, if_neg n2, if_neg n3]
      decide
    · by_cases e2 : k' = k
      · exact e2.symm
      · rw [if_neg e2] at hF
        have := (h4 k' (by omega)).1
        omega
  · obtain ⟨r1, r2, r3, r4, r5, r6, r7, r8⟩ := h4 k (by omega)
    have hh : hv (R.1, R.2.1, R.2.2.1, R.2.2.2.1, R.2.2.2.2.1, l) (nI s) n = hv R (nI s) n := hv_ext n (fun i _ => ⟨rfl, rfl, rfl⟩)
    have hl : lk (R.1, R.2.1, R.2.2.1, R.2.2.2.1, R.2.2.2.2.1, l) (hv R (nI s) n) n = lk R (hv R (nI s) n) n := lk_ext (R := R) (R' := (R.1, R.2.1, R.2.2.1, R.2.2.2.1, R.2.2.2.2.1, l)) (by omega) h3 (fun i _ => ⟨rfl, rfl, rfl⟩) (fun j _ => rfl) n (Nat.le_refl _)
    rw [if_neg e, upd_n e, upd_n e, upd_n e, upd_n e, t2 _ r1, t4 _ r1, hh, hl]
    refine ⟨by omega, r2, r3, r4, ?_, r6, t6 _ r1 r7 (.inl hc), fun k' hk' hF => ?_⟩
    · show _ = upd R.2.2.2.1 n _ (F k)
      rw [upd_n (by omega)]; exact r5
    · by_cases e2 : k' = f
      · rw [if_pos e2] at hF; omega
      · rw [if_neg e2] at hF
        exact r8 k' (by omega) hF
/-- joining from a state in which the class may still hold its '!' -/
theorem join_from {s : Nat} {M : Md} {p0 : Int32} (hp : p0 = 1 ∨ p0 = 2 ∨ p0 = 3) {wt ops fr va de lo : Fn} {R : Ru} {w f n j0 N N2 : Nat} {S : Rd × Ru} (hN : 5000 ≤ N) (hN2 : 5000 ≤ N2) (hj0 : j0 ≤ 60) (hS : Sim s w f n wt fr R va de lo ops) (hn : n + ct gj wt w ≤ 60) (hf : f = ct gb wt w + 1) (hfw : f + w ≤ 60) (h1 : 1 ≤ n) (hr : fr (f - 1) = nI (n - 1))
    (hd : ∀ (p : Int32) (q : Nat) (V0 : Rd) (R0 : Ru) (m : Nat), p ≤ 3 → lp (b_X2_joinWaiting_0 q V0 R0 p) (j0 + m) S = lp (b_X2_joinWaiting_0 q V0 R0 p) m ((wt, fr, nI w, nI f), R)) :
    ∃ (w' f' n' : Nat) (fr' : Fn) (R' : Ru) (va' de' lo' : Fn), w' ≤ w ∧ f' + w' ≤ f + w ∧ f_X2_joinWaiting N S.1 S.2 p0 = some ((wt, fr', nI w', nI f'), R') ∧ f_X6_joinAll N2 (sq M va de lo (nI f) ops (nI w)) p0 = some (sq M va' de' lo' (nI f') ops (nI w')) ∧
      Sim s w' f' n' wt fr' R' va' de' lo' ops ∧ (w' = 0 ∨ st (wt (w' - 1)) < p0) ∧ n' + ct gj wt w' = n + ct gj wt w ∧ f' = ct gb wt w' + 1 ∧ ct gp wt w' = ct gp wt w ∧ 1 ≤ n' ∧ fr' (f' - 1) = nI (n' - 1) ∧ R'.2.2.2.2.2 = R.2.2.2.2.2 := by
  obtain ⟨j, w', f', n', fr', R', va', de', lo', g1, g2, g3, g4, g5, g6, g7, g8⟩ := joins (M := M) hp w f n fr R va de lo hS hn hf hfw h1 hr
  have hp3 : p0 ≤ 3 := by rcases hp with rfl | rfl | rfl <;> decide
  refine ⟨w', f', n', fr', R', va', de', lo', g2, g3, ?_, ?_, g6, g7, g8⟩
  · unfold f_X2_joinWaiting
    obtain ⟨m, rfl⟩ : ∃ m, N = j0 + (j + (m + 1)) := ⟨N - j0 - j - 1, by omega⟩
    refine (hd p0 _ S.1 S.2 _ hp3).trans ((g4 p0 _ S.1 S.2 _ (Int32.le_refl _)).trans ?_)
    exact jw_stop (by omega) g7 _
  · unfold f_X6_joinAll
    obtain ⟨m, rfl⟩ : ∃ m, N2 = j + 1 + m := ⟨N2 - j - 1, by omega⟩
    exact g5 _ _ m
