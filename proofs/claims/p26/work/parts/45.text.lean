/-! PURE: one sign read; a part, a row, a rule read -/
theorem jn_33 (e : En) (E : List En) : jn 33 (e :: E) = some (eNot e :: E) := by unfold jn; exact if_pos rfl
theorem jn_38 (e a : En) (E : List En) : jn 38 (e :: a :: E) = some (eAnd a e :: E) := by
  unfold jn; dsimp only; rw [if_neg (show ¬ (38 : Int32) = 33 by decide), if_pos rfl]
theorem jn_124 (e a : En) (E : List En) : jn 124 (e :: a :: E) = some (eOr a e :: E) := by
  unfold jn; dsimp only; rw [if_neg (show ¬ (124 : Int32) = 33 by decide), if_neg (show ¬ (124 : Int32) = 38 by decide), if_pos rfl]
theorem take_let {s n N : Nat} {S : Rd × Ru} {W : List Int32} {E : List En} {c lm : Int32} (h : RSt s S W E n lm) (hc : isL c) (hs : s < 256) (hn : n < 60) (hE : E.length < 59) :
    ∃ S', f_X2_take N S.1 S.2 c = some S' ∧ RSt s S' W ((lv c (nI s), 1, 1) :: E) (n + 1) (lm ||| lmk c) := by
  obtain ⟨wt, fr, R, X, rfl, hw, h1, h3, h4, h5⟩ := h
  have hne := isL_ne hc
  have k40 : ¬ c = 40 := by rcases hc with rfl | rfl | rfl | rfl | rfl | rfl | rfl | rfl <;> decide
  have k41 : ¬ c = 41 := by rcases hc with rfl | rfl | rfl | rfl | rfl | rfl | rfl | rfl <;> decide
  obtain ⟨t1, t2, t3, t4, t5, t6, t7⟩ := app_ok (R := (R.1, R.2.1, R.2.2.1, R.2.2.2.1, R.2.2.2.2.1, R.2.2.2.2.2 ||| lmk c)) (s := nI s) (c := c) (a := 0) (b := 0) (d := 1) hn h3 (.inl ⟨hc, rfl, rfl⟩)
  have h6 := Stk_keep (fr' := upd fr E.length (nI n)) (R := (R.1, R.2.1, R.2.2.1, R.2.2.2.1, R.2.2.2.2.1, R.2.2.2.2.2 ||| lmk c)) (c := c) (a := 0) (b := 0) (d := 1) hn h3 (.inl ⟨hc, rfl, rfl⟩) E X (Stk_l (by omega) h3 _ E X h4) (fun k hk => upd_n (by omega)) (fun x _ => .inl hc)
  have hX := Stk_lt E X h4
  refine ⟨((wt, upd fr E.length (nI n), nI W.length, nI (E.length + 1)), app (R.1, R.2.1, R.2.2.1, R.2.2.2.1, R.2.2.2.2.1, R.2.2.2.2.2 ||| lmk c) c 0 0 1 n), ?_, wt, upd fr E.length (nI n), _, n :: X, rfl, hw, rfl, t1, ⟨⟨by omega, upd_e rfl, ?_, (letter_val hc hs).2.1, ?_, ?_, t7, fun z => absurd (hX n z).1 (Nat.lt_irrefl _)⟩, h6⟩, by show R.2.2.2.2.2 ||| lmk c = _; rw [h5.1], fun x9 hx9 => by cases hx9; rfl⟩
  · unfold f_X2_take b_X2_take_110
    dsimp only
    rw [if_neg hne.1, if_neg hne.2.1, if_neg k40, if_neg k41, if_neg hne.2.2, addLetter_ok h1 hn hc, Option.bind_some]
    dsimp only
    rw [keepFree_ok _ _ _ _ (show E.length < 60 by omega), Option.bind_some]
  · show lv c (nI s) = _
    rw [t3]
    unfold pv
    rw [app_1, if_neg hne.1, if_neg hne.2.1, if_neg hne.2.2]
  · show (1 : Int32) = upd R.2.2.2.1 n 1 n
    rw [upd_e rfl]
  · show 1 = _
    rw [t5]
    unfold lk1
    rw [app_1, if_neg hne.1, if_neg hne.2.1, if_neg hne.2.2]
theorem keep_ok {s n : Nat} {S : Rd × Ru} {W : List Int32} {E : List En} {c lm : Int32} (h : RSt s S W E n lm) (hc : vp_nar .char c = c) (hW : W.length < 60) : ∃ V, f_X2_keepWaiting S.1 c = some V ∧ RSt s (V, S.2) (c :: W) E n lm := by
  obtain ⟨wt, fr, R, X, rfl, hw, h1, h3, h4, h5⟩ := h
  refine ⟨(upd wt W.length c, fr, nI (W.length + 1), nI E.length), keepWaiting_ok _ _ _ _ hW hc, _, fr, R, X, rfl, ⟨upd_e rfl, WS_ext W hw (fun k hk => upd_n (by omega))⟩, h1, h3, h4, h5⟩
theorem take_push {s n N : Nat} {S : Rd × Ru} {W : List Int32} {E : List En} {c lm : Int32} (h : RSt s S W E n lm) (hc : c = 40 ∨ c = 33) (hW : W.length < 60) :
    ∃ S', f_X2_take N S.1 S.2 c = some S' ∧ RSt s S' (c :: W) E n lm := by
  obtain ⟨V, k1, k2⟩ := keep_ok h (show vp_nar .char c = c from nar_ok (hc.elim (fun e => .inr (.inr (.inr (.inl e)))) .inl)) hW
  refine ⟨_, ?_, k2⟩
  unfold f_X2_take b_X2_take_110
  rcases hc with rfl | rfl
  · rw [if_neg (show ¬ (40 : Int32) = 33 by decide), if_neg (show ¬ (40 : Int32) = 38 by decide), if_pos rfl, k1, Option.bind_some]
  · rw [if_pos rfl, k1, Option.bind_some]
theorem take_op {s n n' N : Nat} {S : Rd × Ru} {W W' : List Int32} {E E' : List En} {c lm : Int32} (hN : 5000 ≤ N) (h : RSt s S W E n lm) (hc : c = 38 ∨ c = 124) (hj : jwl (st c) W E n = some (W', E', n')) (hn : n' ≤ 60) (hE : E.length ≤ 59) (hW : W.length < 59) (hW' : W'.length < 60) :
    ∃ S', f_X2_take N S.1 S.2 c = some S' ∧ RSt s S' (c :: W') E' n' lm := by
  obtain ⟨S1, j1, j2⟩ := joinWaiting_ok hN h hj hn hE hW
  obtain ⟨V, k1, k2⟩ := keep_ok j2 (show vp_nar .char c = c from nar_ok (hc.elim (fun e => .inr (.inl e)) (fun e => .inr (.inr (.inl e))))) hW'
  refine ⟨_, ?_, k2⟩
  unfold f_X2_take b_X2_take_110
  rcases hc with rfl | rfl
  · rw [if_neg (show ¬ (38 : Int32) = 33 by decide), if_pos rfl, st_c, Option.bind_some, j1, Option.bind_some, k1, Option.bind_some]
  · rw [if_neg (show ¬ (124 : Int32) = 33 by decide), if_neg (show ¬ (124 : Int32) = 38 by decide), if_neg (show ¬ (124 : Int32) = 40 by decide), if_neg (show ¬ (124 : Int32) = 41 by decide), if_pos rfl, st_c, Option.bind_some, j1, Option.bind_some, k1, Option.bind_some]
theorem take_close {s n n' N : Nat} {S : Rd × Ru} {W W' : List Int32} {E E' : List En} {lm : Int32} (hN : 5000 ≤ N) (h : RSt s S W E n lm) (hj : jwl 1 W E n = some (40 :: W', E', n')) (hn : n' ≤ 60) (hE : E.length ≤ 59) (hW : W.length < 59) (hW' : W'.length < 60) :
    ∃ S', f_X2_take N S.1 S.2 41 = some S' ∧ RSt s S' W' E' n' lm := by
  obtain ⟨S1, j1, wt, fr, R, X, rfl, hw, h1, h3, h4, h5⟩ := joinWaiting_ok hN h hj hn hE hW
  refine ⟨((wt, fr, nI W'.length, nI E'.length), R), ?_, wt, fr, R, X, rfl, hw.2, h1, h3, h4, h5⟩
  unfold f_X2_take b_X2_take_110
  rw [if_neg (show ¬ (41 : Int32) = 33 by decide), if_neg (show ¬ (41 : Int32) = 38 by decide), if_neg (show ¬ (41 : Int32) = 40 by decide), if_pos rfl, j1, Option.bind_some]
  dsimp only
  have e : nI (40 :: W').length - 1 = nI W'.length := nI_pred _
  rw [e]
  by_cases q : W'.length = 0
  · rw [q]; rfl
  · rw [if_pos (show (0 : Int32) < nI W'.length from nI_lt (a := 0) (by omega) (by omega))]
def rdL (N : Nat) : List Int32 → Rd × Ru → Option (Rd × Ru)
  | [], S => some S
  | c :: l, S => (f_X2_take N S.1 S.2 c).bind (rdL N l)
theorem rdL_app {N : Nat} : ∀ (a b : List Int32) (S : Rd × Ru), rdL N (a ++ b) S = (rdL N a S).bind (rdL N b)
  | [], b, S => rfl
  | c :: a, b, S => by
    show (f_X2_take N S.1 S.2 c).bind (rdL N (a ++ b)) = ((f_X2_take N S.1 S.2 c).bind (rdL N a)).bind (rdL N b)
    cases f_X2_take N S.1 S.2 c with
    | none => rfl
    | some S1 => exact rdL_app a b S1
theorem rdL_cons {N : Nat} {c : Int32} {l : List Int32} {S S1 : Rd × Ru} (h : f_X2_take N S.1 S.2 c = some S1) : rdL N (c :: l) S = rdL N l S1 := by
  show (f_X2_take N S.1 S.2 c).bind (rdL N l) = _
  rw [h]; rfl
theorem rdL_then {N : Nat} {a b : List Int32} {S S1 : Rd × Ru} (h : rdL N a S = some S1) : rdL N (a ++ b) S = rdL N b S1 := by
  rw [rdL_app, h]; rfl
/-- a part: not, two letters, its letters -/
abbrev Prt : Type := Bool × Bool × Int32 × Int32
def ptx (q : Prt) : List Int32 := (if q.1 then [33] else []) ++ (if q.2.1 then [40, q.2.2.1, 124, q.2.2.2, 41] else [q.2.2.1])
def coreE (q : Prt) (s : Int32) : En := if q.2.1 then eOr (lv q.2.2.1 s, 1, 1) (lv q.2.2.2 s, 1, 1) else (lv q.2.2.1 s, 1, 1)
def partE (q : Prt) (s : Int32) : En := if q.1 then eNot (coreE q s) else coreE q s
def pC (q : Prt) : Nat := if q.2.1 then 3 else 1
def pN (q : Prt) : Nat := pC q + (if q.1 then 1 else 0)
def pL (lm : Int32) (q : Prt) : Int32 := if q.2.1 then (lm ||| lmk q.2.2.1) ||| lmk q.2.2.2 else lm ||| lmk q.2.2.1
def pw (q : Prt) (W : List Int32) : List Int32 := if q.1 then 33 :: W else W
def okP (q : Prt) : Prop := isL q.2.2.1 ∧ isL q.2.2.2
theorem read_core {s n N : Nat} {S : Rd × Ru} {W : List Int32} {E : List En} {lm : Int32} {q : Prt} (hN : 5000 ≤ N) (hq : okP q) (h : RSt s S W E n lm) (hs : s < 256) (hn : n + 3 ≤ 60) (hE : E.length ≤ 20) (hW : W.length ≤ 20) :
    ∃ S', rdL N (if q.2.1 then [40, q.2.2.1, 124, q.2.2.2, 41] else [q.2.2.1]) S = some S' ∧ RSt s S' W (coreE q (nI s) :: E) (n + pC q) (pL lm q) := by
  obtain ⟨nt, tw, c1, c2⟩ := q
  obtain ⟨h1, h2⟩ := hq
  unfold coreE pC pL
  dsimp only at h1 h2 ⊢
  cases tw with
  | false =>
    obtain ⟨S1, a1, a2⟩ := take_let (N := N) h h1 hs (by omega) (by omega)
    exact ⟨S1, by rw [if_neg (by decide), rdL_cons a1]; rfl, by rw [if_neg (by decide), if_neg (by decide), if_neg (by decide)]; exact a2⟩
  | true =>
    obtain ⟨S1, a1, a2⟩ := take_push (N := N) (c := 40) h (.inl rfl) (by omega)
    obtain ⟨S2, b1, b2⟩ := take_let (N := N) a2 h1 hs (by omega) (by omega)
    obtain ⟨S3, d1, d2⟩ := take_op (c := 124) (W' := 40 :: W) hN b2 (.inr rfl) (by unfold jwl; rw [if_pos (show st 40 < st 124 by decide)]) (by omega) (by simp only [List.length_cons]; omega) (by simp only [List.length_cons]; omega) (by simp only [List.length_cons]; omega)
    obtain ⟨S4, e1, e2⟩ := take_let (N := N) d2 h2 hs (by omega) (by simp only [List.length_cons]; omega)
    obtain ⟨S5, f1, f2⟩ := take_close (W' := W) hN e2 (by
      unfold jwl
      rw [if_neg (show ¬ st 124 < 1 by decide)]
      rw [jn_124, Option.bind_some]
      unfold jwl
      rw [if_pos (show st 40 < 1 by decide)]) (by omega) (by simp only [List.length_cons]; omega) (by simp only [List.length_cons]; omega) (by omega)
    refine ⟨S5, ?_, ?_⟩
    · rw [if_pos rfl, rdL_cons a1, rdL_cons b1, rdL_cons d1, rdL_cons e1, rdL_cons f1]; rfl
    · rw [if_pos rfl, if_pos rfl, if_pos rfl]
      exact f2
theorem read_part {s n N : Nat} {S : Rd × Ru} {W : List Int32} {E : List En} {lm : Int32} {q : Prt} (hN : 5000 ≤ N) (hq : okP q) (h : RSt s S W E n lm) (hs : s < 256) (hn : n + 3 ≤ 60) (hE : E.length ≤ 20) (hW : W.length ≤ 19) :
    ∃ S', rdL N (ptx q) S = some S' ∧ RSt s S' (pw q W) (coreE q (nI s) :: E) (n + pC q) (pL lm q) := by
  unfold ptx pw
  by_cases c : q.1 = true
  · rw [if_pos c, if_pos c]
    obtain ⟨S1, a1, a2⟩ := take_push (N := N) (c := 33) h (.inr rfl) (by omega)
    obtain ⟨S2, b1, b2⟩ := read_core hN hq a2 hs hn hE (by simp only [List.length_cons]; omega)
    exact ⟨S2, by rw [List.singleton_append, rdL_cons a1]; exact b1, b2⟩
  · rw [if_neg c, if_neg c]
    exact read_core hN hq h hs hn hE (by omega)
/-! rows -/
def rwE (Q : Nat → Prt) (s : Int32) : Nat → En
  | 0 => (1, 0, 0)
  | p + 1 => if p = 0 then partE (Q 0) s else eAnd (rwE Q s p) (partE (Q p) s)
def rwN (Q : Nat → Prt) : Nat → Nat
  | 0 => 0
  | p + 1 => (if p = 0 then 0 else rwN Q p + 1) + pN (Q p)
def rwL (Q : Nat → Prt) (lm : Int32) : Nat → Int32
  | 0 => lm
  | p + 1 => pL (rwL Q lm p) (Q p)
def rowT (Q : Nat → Prt) : Nat → List Int32
  | 0 => []
  | p + 1 => rowT Q p ++ ((if p = 0 then [] else [38]) ++ ptx (Q p))
def aW (p : Nat) (W : List Int32) : List Int32 := if p = 0 then W else 38 :: W
def aE (Q : Nat → Prt) (s : Int32) (p : Nat) (E : List En) : List En := if p = 0 then E else rwE Q s p :: E
def uN (Q : Nat → Prt) (p : Nat) : Nat := (if p = 0 then 0 else rwN Q p) + pC (Q p)
theorem jwl_pw {q2 : Int32} (hq : q2 = 1 ∨ q2 = 2) (q : Prt) (W : List Int32) (e : En) (E : List En) (n : Nat) : jwl q2 (pw q W) (e :: E) n = jwl q2 W ((if q.1 then eNot e else e) :: E) (n + (if q.1 then 1 else 0)) := by
  unfold pw
  by_cases c : q.1 = true
  · rw [if_pos c, if_pos c, if_pos c]
    have : jwl q2 (33 :: W) (e :: E) n = if st 33 < q2 then some (33 :: W, e :: E, n) else (jn 33 (e :: E)).bind fun E' => jwl q2 W E' (n + 1) := rfl
    rw [this, if_neg (by rcases hq with rfl | rfl <;> decide), jn_33, Option.bind_some]
  · rw [if_neg c, if_neg c, if_neg c, Nat.add_zero]
theorem settle {Q : Nat → Prt} {s q2 : Int32} (hq : q2 = 1 ∨ q2 = 2) (p : Nat) (W : List Int32) (E : List En) (n : Nat) :
    jwl q2 (pw (Q p) (aW p W)) (coreE (Q p) s :: aE Q s p E) (n + uN Q p) = jwl q2 W (rwE Q s (p + 1) :: E) (n + rwN Q (p + 1)) := by
  rw [jwl_pw hq]
  show jwl q2 (aW p W) (partE (Q p) s :: aE Q s p E) _ = jwl q2 W ((if p = 0 then partE (Q 0) s else eAnd (rwE Q s p) (partE (Q p) s)) :: E) (n + ((if p = 0 then 0 else rwN Q p + 1) + pN (Q p)))
  unfold aW aE uN pN
  by_cases p0 : p = 0
  · subst p0
    rw [if_pos rfl, if_pos rfl, if_pos rfl, if_pos rfl, if_pos rfl]
    congr 1; omega
  · rw [if_neg p0, if_neg p0, if_neg p0, if_neg p0, if_neg p0]
    have : ∀ m, jwl q2 (38 :: W) (partE (Q p) s :: rwE Q s p :: E) m = if st 38 < q2 then some (38 :: W, partE (Q p) s :: rwE Q s p :: E, m) else (jn 38 (partE (Q p) s :: rwE Q s p :: E)).bind fun E' => jwl q2 W E' (m + 1) := fun _ => rfl
    rw [this, if_neg (by rcases hq with rfl | rfl <;> decide), jn_38, Option.bind_some]
    congr 1; omega
theorem pC_le (q : Prt) : 1 ≤ pC q ∧ pC q ≤ 3 := by unfold pC; split <;> omega
theorem pN_le (q : Prt) : 1 ≤ pN q ∧ pN q ≤ 4 := by have := pC_le q; unfold pN; split <;> omega
theorem rwN_le (Q : Nat → Prt) : ∀ p, rwN Q p ≤ 5 * p
  | 0 => Nat.le_refl _
  | p + 1 => by
    have h1 := rwN_le Q p
    have h2 := pN_le (Q p)
    show (if p = 0 then 0 else rwN Q p + 1) + pN (Q p) ≤ _
    split <;> omega
theorem row_read {s n N : Nat} {S : Rd × Ru} {W : List Int32} {E : List En} {lm : Int32} {Q : Nat → Prt} (hN : 5000 ≤ N) (hQ : ∀ p, okP (Q p)) (h : RSt s S W E n lm) (hs : s < 256) (hn : n ≤ 36) (hE : E.length ≤ 10) (hW : W.length ≤ 10)
    (hW0 : ∀ e m, jwl 2 W (e :: E) m = some (W, e :: E, m)) :
    ∀ p, p < 3 → ∃ S', rdL N (rowT Q (p + 1)) S = some S' ∧ RSt s S' (pw (Q p) (aW p W)) (coreE (Q p) (nI s) :: aE Q (nI s) p E) (n + uN Q p) (rwL Q lm (p + 1))
  | 0, _ => by
    obtain ⟨S1, a1, a2⟩ := read_part hN (hQ 0) h hs (by omega) (by omega) (by omega)
    refine ⟨S1, ?_, ?_⟩
    · show rdL N ([] ++ ([] ++ ptx (Q 0))) S = _
      rw [List.nil_append, List.nil_append]; exact a1
    · have e : uN Q 0 = pC (Q 0) := by unfold uN; rw [if_pos rfl, Nat.zero_add]
      rw [e]
      exact a2
  | p + 1, hp => by
    obtain ⟨S1, a1, a2⟩ := row_read hN hQ h hs hn hE hW hW0 p (by omega)
    have l1 := rwN_le Q (p + 1)
    have l2 : (aE Q (nI s) p E).length ≤ 11 := by
      unfold aE; split
      · omega
      · simp only [List.length_cons]; omega
    have l3 : (pw (Q p) (aW p W)).length ≤ 12 := by
      have : (aW p W).length ≤ 11 := by
        unfold aW; split
        · omega
        · simp only [List.length_cons]; omega
      unfold pw; split
      · simp only [List.length_cons]; omega
      · omega
    obtain ⟨S2, b1, b2⟩ := take_op (c := 38) hN a2 (.inl rfl) (by
      rw [show st 38 = 2 from by decide, settle (.inr rfl)]
      exact hW0 _ _) (by omega) (by simp only [List.length_cons]; omega) (by omega) (by omega)
    obtain ⟨S3, d1, d2⟩ := read_part hN (hQ (p + 1)) b2 hs (by omega) (by simp only [List.length_cons]; omega) (by simp only [List.length_cons]; omega)
    refine ⟨S3, ?_, ?_⟩
    · show rdL N (rowT Q (p + 1) ++ ([38] ++ ptx (Q (p + 1)))) S = _
      rw [rdL_then a1, List.singleton_append, rdL_cons b1]
      exact d1
    · have e : n + rwN Q (p + 1) + pC (Q (p + 1)) = n + uN Q (p + 1) := by
        unfold uN; rw [if_neg (by omega)]; omega
      rw [← e]
      exact d2
/-! rules -/
def ruE (P : Nat → Nat → Prt) (pc : Nat → Nat) (s : Int32) : Nat → En
  | 0 => (0, 0, 0)
  | r + 1 => if r = 0 then rwE (P 0) s (pc 0 + 1) else eOr (ruE P pc s r) (rwE (P r) s (pc r + 1))
def ruN (P : Nat → Nat → Prt) (pc : Nat → Nat) : Nat → Nat
  | 0 => 0
  | r + 1 => (if r = 0 then 0 else ruN P pc r + 1) + rwN (P r) (pc r + 1)
def ruL (P : Nat → Nat → Prt) (pc : Nat → Nat) : Nat → Int32
  | 0 => 0
  | r + 1 => rwL (P r) (ruL P pc r) (pc r + 1)
def rulT (P : Nat → Nat → Prt) (pc : Nat → Nat) : Nat → List Int32
  | 0 => []
  | r + 1 => rulT P pc r ++ ((if r = 0 then [] else [124]) ++ rowT (P r) (pc r + 1))
def oW (r : Nat) : List Int32 := if r = 0 then [] else [124]
def oE (P : Nat → Nat → Prt) (pc : Nat → Nat) (s : Int32) (r : Nat) : List En := if r = 0 then [] else [ruE P pc s r]
def oN (P : Nat → Nat → Prt) (pc : Nat → Nat) (r : Nat) : Nat := if r = 0 then 0 else ruN P pc r
theorem ruN_le {P : Nat → Nat → Prt} {pc : Nat → Nat} (hpc : ∀ r, pc r < 3) : ∀ r, ruN P pc r ≤ 16 * r
  | 0 => Nat.le_refl _
  | r + 1 => by
    have h1 := ruN_le hpc r (P := P)
    have h2 := rwN_le (P r) (pc r + 1)
    have h3 := hpc r
    show (if r = 0 then 0 else ruN P pc r + 1) + rwN (P r) (pc r + 1) ≤ _
    split <;> omega
theorem settle_rule {P : Nat → Nat → Prt} {pc : Nat → Nat} {s : Int32} (r : Nat) (m : Nat) : jwl 1 (oW r) (rwE (P r) s (pc r + 1) :: oE P pc s r) (oN P pc r + m) = some ([], [ruE P pc s (r + 1)], (if r = 0 then 0 else ruN P pc r + 1) + m) := by
  show _ = some ([], [if r = 0 then rwE (P 0) s (pc 0 + 1) else eOr (ruE P pc s r) (rwE (P r) s (pc r + 1))], _)
  unfold oW oE oN
  by_cases r0 : r = 0
  · subst r0
    rw [if_pos rfl, if_pos rfl, if_pos rfl, if_pos rfl, if_pos rfl]
    rfl
  · rw [if_neg r0, if_neg r0, if_neg r0, if_neg r0, if_neg r0]
    have : ∀ m, jwl 1 [124] [rwE (P r) s (pc r + 1), ruE P pc s r] m = if st 124 < 1 then some ([124], [rwE (P r) s (pc r + 1), ruE P pc s r], m) else (jn 124 [rwE (P r) s (pc r + 1), ruE P pc s r]).bind fun E' => jwl 1 [] E' (m + 1) := fun _ => rfl
    rw [this, if_neg (by decide), jn_124, Option.bind_some]
    show some ([], [eOr (ruE P pc s r) (rwE (P r) s (pc r + 1))], ruN P pc r + m + 1) = _
    rw [show ruN P pc r + m + 1 = ruN P pc r + 1 + m from by omega]
theorem rule_read {s N : Nat} {S : Rd × Ru} {P : Nat → Nat → Prt} {pc : Nat → Nat} (hN : 5000 ≤ N) (hP : ∀ r p, okP (P r p)) (hpc : ∀ r, pc r < 3) (h : RSt s S [] [] 0 0) (hs : s < 256) :
    ∀ r, (∀ q, q ≤ r → ruN P pc q ≤ 36) → ∃ S', rdL N (rulT P pc (r + 1)) S = some S' ∧ RSt s S' (pw (P r (pc r)) (aW (pc r) (oW r))) (coreE (P r (pc r)) (nI s) :: aE (P r) (nI s) (pc r) (oE P pc (nI s) r)) (oN P pc r + uN (P r) (pc r)) (ruL P pc (r + 1))
  | 0, _ => by
    obtain ⟨S1, a1, a2⟩ := row_read hN (hP 0) h hs (by omega) (by simp) (by simp) (fun e m => rfl) (pc 0) (hpc 0)
    refine ⟨S1, ?_, ?_⟩
    · show rdL N ([] ++ ([] ++ rowT (P 0) (pc 0 + 1))) S = _
      rw [List.nil_append, List.nil_append]; exact a1
    · exact a2
  | r + 1, hr => by
    obtain ⟨S1, a1, a2⟩ := rule_read hN hP hpc h hs r (fun q hq => hr q (by omega))
    have l0 := hpc r
    have l1 := rwN_le (P r) (pc r + 1)
    have l4 := hr (r + 1) (Nat.le_refl _)
    have l5 : (oE P pc (nI s) r).length ≤ 1 := by unfold oE; split <;> simp
    have l6 : (oW r).length ≤ 1 := by unfold oW; split <;> simp
    have l2 : (aE (P r) (nI s) (pc r) (oE P pc (nI s) r)).length ≤ 2 := by
      unfold aE; split
      · omega
      · simp only [List.length_cons]; omega
    have l3 : (pw (P r (pc r)) (aW (pc r) (oW r))).length ≤ 3 := by
      have : (aW (pc r) (oW r)).length ≤ 2 := by
        unfold aW; split
        · omega
        · simp only [List.length_cons]; omega
      unfold pw; split
      · simp only [List.length_cons]; omega
      · omega
    obtain ⟨S2, b1, b2⟩ := take_op (c := 124) hN a2 (.inr rfl) (by
      rw [show st 124 = 1 from by decide, settle (.inl rfl), settle_rule]) (by
        show ruN P pc (r + 1) ≤ 60
        omega) (by simp only [List.length_cons]; omega) (by omega) (by simp)
    obtain ⟨S3, d1, d2⟩ := row_read hN (hP (r + 1)) b2 hs (show ruN P pc (r + 1) ≤ 36 by omega) (by simp) (by simp) (fun e m => by
      have : jwl 2 [124] (e :: [ruE P pc (nI s) (r + 1)]) m = if st 124 < 2 then some ([124], e :: [ruE P pc (nI s) (r + 1)], m) else (jn 124 (e :: [ruE P pc (nI s) (r + 1)])).bind fun E' => jwl 2 [] E' (m + 1) := rfl
      rw [this, if_pos (by decide)]) (pc (r + 1)) (hpc (r + 1))
    refine ⟨S3, ?_, ?_⟩
    · show rdL N (rulT P pc (r + 1) ++ ([124] ++ rowT (P (r + 1)) (pc (r + 1) + 1))) S = _
      rw [rdL_then a1, List.singleton_append, rdL_cons b1]
      exact d1
    · have e1 : oW (r + 1) = [124] := if_neg (by omega)
      have e2 : oE P pc (nI s) (r + 1) = [ruE P pc (nI s) (r + 1)] := if_neg (by omega)
      have e3 : oN P pc (r + 1) = ruN P pc (r + 1) := if_neg (by omega)
      rw [e1, e2, e3]
      exact d2
theorem rule_done {s N : Nat} {S : Rd × Ru} {P : Nat → Nat → Prt} {pc : Nat → Nat} (hN : 5000 ≤ N) (hP : ∀ r p, okP (P r p)) (hpc : ∀ r, pc r < 3) (h : RSt s S [] [] 0 0) (hs : s < 256) (r : Nat) (hr : ∀ q, q ≤ r → ruN P pc q ≤ 36) (hr2 : ruN P pc (r + 1) ≤ 60) :
    ∃ S', ((rdL N (rulT P pc (r + 1)) S).bind fun S1 => f_X2_joinWaiting N S1.1 S1.2 1) = some S' ∧ RSt s S' [] [ruE P pc (nI s) (r + 1)] (ruN P pc (r + 1)) (ruL P pc (r + 1)) := by
  obtain ⟨S1, a1, a2⟩ := rule_read hN hP hpc h hs r hr
  have l0 := hpc r
  have l5 : (oE P pc (nI s) r).length ≤ 1 := by unfold oE; split <;> simp
  have l6 : (oW r).length ≤ 1 := by unfold oW; split <;> simp
  have l2 : (aE (P r) (nI s) (pc r) (oE P pc (nI s) r)).length ≤ 2 := by
    unfold aE; split
    · omega
    · simp only [List.length_cons]; omega
  have l3 : (pw (P r (pc r)) (aW (pc r) (oW r))).length ≤ 3 := by
    have : (aW (pc r) (oW r)).length ≤ 2 := by
      unfold aW; split
      · omega
      · simp only [List.length_cons]; omega
    unfold pw; split
    · simp only [List.length_cons]; omega
    · omega
  obtain ⟨S2, b1, b2⟩ := joinWaiting_ok (p := 1) hN a2 (by rw [settle (.inl rfl), settle_rule]) (by
    show ruN P pc (r + 1) ≤ 60
    exact hr2) (by simp only [List.length_cons]; omega) (by omega)
  exact ⟨S2, by rw [a1]; exact b1, b2⟩
