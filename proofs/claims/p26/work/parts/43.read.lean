def gb (c : Int32) : Nat := if c = 38 ∨ c = 124 then 1 else 0
theorem depthOf_ok {R : Ru} {n i : Nat} (e : R.2.2.2.2.1 = nI n) (hn : n ≤ 60) (hi : i < n) : f_X3_depthOf R (nI i) = some (R.2.2.2.1 i) := by
  unfold f_X3_depthOf b_X3_depthOf_28
  rw [if_neg (nI_pos (by omega)), e, if_neg (nI_ge hi (by omega)), if_neg (show ¬ (60 : Int32) ≤ nI i from nI_ge (b := 60) (by omega) (by decide)), ix_nI (show i < 60 by omega) (by decide), cl i (by omega)]
theorem takeFree_ok (wt fr : Fn) (a : Int32) {f : Nat} (hf : f < 60) : f_X2_takeFree (wt, fr, a, nI (f + 1)) = some (fr f, (wt, fr, a, nI f)) := by
  unfold f_X2_takeFree
  dsimp only
  rw [if_neg (nI_ne0 (by omega) (by omega)), nI_pred, ix_nI hf (by decide), cl f (by omega)]
theorem keepFree_ok (wt fr : Fn) (a x : Int32) {f : Nat} (hf : f < 60) : f_X2_keepFree (wt, fr, a, nI f) x = some (wt, upd fr f x, a, nI (f + 1)) := by
  unfold f_X2_keepFree b_X2_keepFree_29
  dsimp only
  rw [if_neg (show ¬ (60 : Int32) ≤ nI f from nI_ge (b := 60) hf (by decide)), ix_nI hf (by decide), cl f (by omega), nI_1]
theorem max_comm' (x y : Int32) : (if x < y then y else x) = (if x ≤ y then y else x) := by
  by_cases c : x < y
  · rw [if_pos c, if_pos (Int32.le_of_lt c)]
  · rw [if_neg c]
    by_cases d : x ≤ y
    · rw [if_pos d]
      rw [z_lt] at c; rw [z_le] at d
      exact Int32.toInt_inj.mp (by omega)
    · rw [if_neg d]
theorem app_1 (R : Ru) (c a b d : Int32) (n : Nat) : (app R c a b d n).1 n = c := upd_e rfl
theorem app_2 (R : Ru) (c a b d : Int32) (n : Nat) : (app R c a b d n).2.1 n = a := upd_e rfl
theorem app_3 (R : Ru) (c a b d : Int32) (n : Nat) : (app R c a b d n).2.2.1 n = b := upd_e rfl
def st (c : Int32) : Int32 := if c = 33 then 3 else if c = 38 then 2 else if c = 124 then 1 else 0
theorem st_c (V : Rd) (c : Int32) : f_X2_strength V c = some (st c) := by
  unfold f_X2_strength st
  repeat' split
  all_goals rfl
theorem jw_go {q : Nat} {V0 : Rd} {R0 R R' : Ru} {p : Int32} {wt fr fr' : Fn} {w f f' : Nat} (hw : w < 60) (hs : ¬ st (wt w) < p) (hj : f_X2_joinFree (wt, fr, nI (w + 1), nI f) R (wt w) = some ((wt, fr', nI (w + 1), nI f'), R')) (K) : b_X2_joinWaiting_0 q V0 R0 p K ((wt, fr, nI (w + 1), nI f), R) = K ((wt, fr', nI w, nI f'), R') := by
  unfold b_X2_joinWaiting_0
  refine (if_neg (show ¬ nI (w + 1) ≤ 0 from nI_nle (by omega) (by omega))).trans ?_
  dsimp only
  rw [nI_pred, ix_nI hw (by decide), cl w (by omega), st_c, Option.bind_some, if_neg hs, ix_nI hw (by decide), hj, Option.bind_some]
  dsimp only
  rw [nI_pred]
theorem jw_stop {q : Nat} {V0 : Rd} {R0 R : Ru} {p : Int32} {wt fr : Fn} {w f : Nat} (hw : w ≤ 60) (hs : w = 0 ∨ st (wt (w - 1)) < p) (K) : b_X2_joinWaiting_0 q V0 R0 p K ((wt, fr, nI w, nI f), R) = some ((wt, fr, nI w, nI f), R) := by
  unfold b_X2_joinWaiting_0 b_X2_joinWaiting_55
  by_cases w0 : w = 0
  · subst w0
    exact if_pos (show nI 0 ≤ 0 by decide)
  · obtain ⟨v, rfl⟩ : ∃ v, w = v + 1 := ⟨w - 1, by omega⟩
    refine (if_neg (show ¬ nI (v + 1) ≤ 0 from nI_nle (by omega) (by omega))).trans ?_
    dsimp only
    rw [nI_pred, ix_nI (show v < 60 by omega) (by decide), cl v (by omega), st_c, Option.bind_some, if_pos (show st (wt v) < p from hs.resolve_left w0)]
def lmk (c : Int32) : Int32 := if c < 97 then (16 : Int32) <<< ((c - (65 : Int32)) &&& 31) else (1 : Int32) <<< ((c - (97 : Int32)) &&& 31)
theorem letnum {c : Int32} (h : isL c) (V : Ru) : ∃ o, f_X3_letterNumber V c = some o ∧ (1 : Int32) <<< (o &&& 31) = lmk c := by
  have key : ∃ o, f_X3_letterNumber R00 c = some o ∧ (1 : Int32) <<< (o &&& 31) = lmk c := by
    rcases h with rfl | rfl | rfl | rfl | rfl | rfl | rfl | rfl
    · exact ⟨4, by decide +kernel, by decide +kernel⟩
    · exact ⟨5, by decide +kernel, by decide +kernel⟩
    · exact ⟨6, by decide +kernel, by decide +kernel⟩
    · exact ⟨7, by decide +kernel, by decide +kernel⟩
    · exact ⟨0, by decide +kernel, by decide +kernel⟩
    · exact ⟨1, by decide +kernel, by decide +kernel⟩
    · exact ⟨2, by decide +kernel, by decide +kernel⟩
    · exact ⟨3, by decide +kernel, by decide +kernel⟩
  exact key
theorem keepWaiting_ok (wt fr : Fn) (a c : Int32) {w : Nat} (hw : w < 60) (hc : vp_nar .char c = c) : f_X2_keepWaiting (wt, fr, nI w, a) c = some (upd wt w c, fr, nI (w + 1), a) := by
  unfold f_X2_keepWaiting b_X2_keepWaiting_29
  dsimp only
  rw [if_neg (show ¬ (60 : Int32) ≤ nI w from nI_ge (b := 60) hw (by decide)), ix_nI hw (by decide), cl w (by omega), nI_1, hc]
theorem addLetter_ok {R : Ru} {c : Int32} {n : Nat} (e : R.2.2.2.2.1 = nI n) (hn : n < 60) (hL : isL c) : f_X3_addLetter R c = some (nI n, app (R.1, R.2.1, R.2.2.1, R.2.2.2.1, R.2.2.2.2.1, R.2.2.2.2.2 ||| lmk c) c 0 0 1 n) := by
  obtain ⟨o, o1, o2⟩ := letnum hL R
  unfold f_X3_addLetter
  rw [o1, Option.bind_some, o2, add_ok (R := (R.1, R.2.1, R.2.2.1, R.2.2.2.1, R.2.2.2.2.1, R.2.2.2.2.2 ||| lmk c)) e hn (nar_ok (.inr (.inr (.inr (.inr hL))))), Option.bind_some]
