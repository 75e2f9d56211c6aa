/-! PURE: what a reader holds while a text is read: signs that wait, parts that are free, by rows; one joining, joinings in a row -/
abbrev En : Type := Int32 × Int32 × Nat
def eNot (a : En) : En := (if a.1 = 0 then 1 else 0, (1 : Int32) + a.2.1, 1 + a.2.2)
def eAnd (a b : En) : En := (if a.1 = 0 then 0 else if b.1 = 0 then 0 else 1, (1 : Int32) + (if a.2.1 < b.2.1 then b.2.1 else a.2.1), 1 + a.2.2 + (if a.1 = 0 then 0 else b.2.2))
def eOr (a b : En) : En := (if a.1 = 0 then (if b.1 = 0 then 0 else 1) else 1, (1 : Int32) + (if a.2.1 < b.2.1 then b.2.1 else a.2.1), 1 + a.2.2 + (if a.1 = 0 then b.2.2 else 0))
def Stk (s n : Nat) (R : Ru) (fr : Fn) : List En → List Nat → Prop
  | [], [] => True
  | e :: E, x :: X => (x < n ∧ fr E.length = nI x ∧ e.1 = hv R (nI s) n x ∧ (e.1 = 0 ∨ e.1 = 1) ∧ e.2.1 = R.2.2.2.1 x ∧ e.2.2 = lk R (hv R (nI s) n) n x ∧ nopar R n x ∧ x ∉ X) ∧ Stk s n R fr E X
  | [], _ :: _ => False
  | _ :: _, [] => False
theorem Stk_lt {s n : Nat} {R : Ru} {fr : Fn} : ∀ (E : List En) (X : List Nat), Stk s n R fr E X → ∀ x, x ∈ X → x < n ∧ nopar R n x
  | [], [], _, x, h => absurd h List.not_mem_nil
  | e :: E, y :: X, h, x, hx => by
    rcases List.mem_cons.mp hx with q | q
    · subst q; exact ⟨h.1.1, h.1.2.2.2.2.2.2.1⟩
    · exact Stk_lt E X h.2 x q
  | [], _ :: _, h, _, _ => h.elim
  | _ :: _, [], h, _, _ => h.elim
theorem Stk_l {s n : Nat} {R : Ru} {fr : Fn} (hn : n ≤ 60) (ht : treeOK R n) (l : Int32) : ∀ (E : List En) (X : List Nat), Stk s n R fr E X → Stk s n (R.1, R.2.1, R.2.2.1, R.2.2.2.1, R.2.2.2.2.1, l) fr E X
  | [], [], _ => trivial
  | e :: E, y :: X, h => by
    have h1 : hv (R.1, R.2.1, R.2.2.1, R.2.2.2.1, R.2.2.2.2.1, l) (nI s) n = hv R (nI s) n := hv_ext (R := R) (R' := (R.1, R.2.1, R.2.2.1, R.2.2.2.1, R.2.2.2.2.1, l)) n (fun i _ => ⟨rfl, rfl, rfl⟩)
    have h2 : lk (R.1, R.2.1, R.2.2.1, R.2.2.2.1, R.2.2.2.2.1, l) (hv R (nI s) n) n = lk R (hv R (nI s) n) n := lk_ext (R := R) (R' := (R.1, R.2.1, R.2.2.1, R.2.2.2.1, R.2.2.2.2.1, l)) hn ht (fun i _ => ⟨rfl, rfl, rfl⟩) (fun _ _ => rfl) n (Nat.le_refl _)
    obtain ⟨⟨a1, a2, a3, a4, a5, a6, a7, a8⟩, h9⟩ := h
    exact ⟨⟨a1, a2, by rw [h1]; exact a3, a4, a5, by rw [h1, h2]; exact a6, a7, a8⟩, Stk_l hn ht l E X h9⟩
  | [], _ :: _, h => h.elim
  | _ :: _, [], h => h.elim
theorem Stk_fr {s n : Nat} {R : Ru} {fr fr' : Fn} : ∀ (E : List En) (X : List Nat), Stk s n R fr E X → (∀ k, k < E.length → fr' k = fr k) → Stk s n R fr' E X
  | [], [], _, _ => trivial
  | e :: E, y :: X, h, hf => by
    obtain ⟨⟨a1, a2, a3⟩, h9⟩ := h
    exact ⟨⟨a1, (hf _ (Nat.lt_succ_self _)).trans a2, a3⟩, Stk_fr E X h9 (fun k hk => hf k (Nat.lt_succ_of_lt hk))⟩
  | [], _ :: _, h, _ => h.elim
  | _ :: _, [], h, _ => h.elim
theorem Stk_keep {s n : Nat} {R : Ru} {fr fr' : Fn} {c a b d : Int32} (hn : n < 60) (ht : treeOK R n)
    (new : (isL c ∧ a = nI 0 ∧ b = nI 0) ∨ (c = 33 ∧ ∃ x, x < n ∧ a = nI x ∧ b = nI x ∧ nopar R n x) ∨ ((c = 38 ∨ c = 124) ∧ ∃ x y, x < n ∧ y < n ∧ x ≠ y ∧ a = nI x ∧ b = nI y ∧ nopar R n x ∧ nopar R n y)) :
    ∀ (E : List En) (X : List Nat), Stk s n R fr E X → (∀ k, k < E.length → fr' k = fr k) → (∀ x, x ∈ X → isL c ∨ (a ≠ nI x ∧ b ≠ nI x)) → Stk s (n + 1) (app R c a b d n) fr' E X
  | [], [], _, _, _ => trivial
  | e :: E, y :: X, h, hf, hx => by
    obtain ⟨⟨a1, a2, a3, a4, a5, a6, a7, a8⟩, h9⟩ := h
    obtain ⟨t1, t2, t3, t4, t5, t6, t7⟩ := app_ok (s := nI s) (d := d) hn ht new
    refine ⟨⟨by omega, (hf _ (Nat.lt_succ_self _)).trans a2, by rw [t2 _ a1]; exact a3, a4, ?_, by rw [t4 _ a1]; exact a6, t6 _ a1 a7 (hx y List.mem_cons_self), a8⟩, Stk_keep hn ht new E X h9 (fun k hk => hf k (Nat.lt_succ_of_lt hk)) (fun x q => hx x (List.mem_cons_of_mem _ q))⟩
    show _ = upd R.2.2.2.1 n d y
    rw [upd_n (by omega)]; exact a5
  | [], _ :: _, h, _, _ => h.elim
  | _ :: _, [], h, _, _ => h.elim
def WS (wt : Fn) : List Int32 → Prop
  | [] => True
  | c :: W => wt W.length = c ∧ WS wt W
theorem WS_ext {wt wt' : Fn} : ∀ W : List Int32, WS wt W → (∀ k, k < W.length → wt' k = wt k) → WS wt' W
  | [], _, _ => trivial
  | c :: W, h, hk => ⟨(hk _ (Nat.lt_succ_self _)).trans h.1, WS_ext W h.2 (fun k q => hk k (Nat.lt_succ_of_lt q))⟩
/-- the reader's state: signs that wait, what free parts mean (for the sensors s), how many nodes, which letters -/
def RSt (s : Nat) (S : Rd × Ru) (W : List Int32) (E : List En) (n : Nat) (lm : Int32) : Prop := ∃ (wt fr : Fn) (R : Ru) (X : List Nat), S = ((wt, fr, nI W.length, nI E.length), R) ∧ WS wt W ∧ R.2.2.2.2.1 = nI n ∧ treeOK R n ∧ Stk s n R fr E X ∧ R.2.2.2.2.2 = lm ∧ ∀ x, X.head? = some x → x + 1 = n
def jn (c : Int32) : List En → Option (List En)
  | [] => none
  | e :: E => if c = 33 then some (eNot e :: E) else match E with
    | [] => none
    | a :: E2 => if c = 38 then some (eAnd a e :: E2) else if c = 124 then some (eOr a e :: E2) else none
def jwl (p : Int32) : List Int32 → List En → Nat → Option (List Int32 × List En × Nat)
  | [], E, n => some ([], E, n)
  | c :: W, E, n => if st c < p then some (c :: W, E, n) else (jn c E).bind fun E' => jwl p W E' (n + 1)
theorem jn_len {c : Int32} {E E' : List En} (h : jn c E = some E') : E'.length ≤ E.length := by
  unfold jn at h
  split at h
  · cases h
  · by_cases c1 : c = 33
    · rw [if_pos c1] at h; obtain rfl := Option.some.inj h; exact Nat.le_refl _
    · rw [if_neg c1] at h
      split at h
      · cases h
      · by_cases c2 : c = 38
        · rw [if_pos c2] at h; obtain rfl := Option.some.inj h; simp
        · rw [if_neg c2] at h
          by_cases c3 : c = 124
          · rw [if_pos c3] at h; obtain rfl := Option.some.inj h; simp
          · rw [if_neg c3] at h; cases h
theorem jw_step {s n : Nat} {S : Rd × Ru} {W : List Int32} {E E' : List En} {c p lm : Int32} (h : RSt s S (c :: W) E n lm) (hj : jn c E = some E') (hn : n < 60) (hE : E.length ≤ 59) (hW : W.length < 59) (hs : ¬ st c < p) :
    ∃ S', (∀ q V0 R0 K, b_X2_joinWaiting_0 q V0 R0 p K S = K S') ∧ RSt s S' W E' (n + 1) lm := by
  obtain ⟨wt, fr, R, X, rfl, hw, h1, h3, h4, h5⟩ := h
  obtain ⟨hw1, hw2⟩ := hw
  have e2 : st (wt W.length) = st c := by rw [hw1]
  cases E with
  | nil => cases hj
  | cons e E =>
    cases X with
    | nil => exact h4.elim
    | cons x X =>
      obtain ⟨⟨a1, a2, a3, a4, a5, a6, a7, a8⟩, h9⟩ := h4
      have hxs := Stk_lt E X h9
      have hE' : E.length < 59 := by simp only [List.length_cons] at hE; omega
      have hc1 : (e :: E).length = E.length + 1 := rfl
      have hc2 : (c :: W).length = W.length + 1 := rfl
      unfold jn at hj
      dsimp only at hj
      by_cases c33 : c = 33
      · rw [if_pos c33] at hj
        obtain rfl := Option.some.inj hj
        obtain ⟨t1, t2, t3, t4, t5, t6, t7⟩ := app_ok (s := nI s) (c := 33) (a := nI x) (b := nI x) (d := (1 : Int32) + R.2.2.2.1 x) hn h3 (.inr (.inl ⟨rfl, x, a1, rfl, rfl, a7⟩))
        refine ⟨((wt, upd fr E.length (nI n), nI W.length, nI (E.length + 1)), app R 33 (nI x) (nI x) ((1 : Int32) + R.2.2.2.1 x) n), fun q V0 R0 K => ?_, wt, upd fr E.length (nI n), _, n :: X, rfl, hw2, rfl, t1, ⟨⟨by omega, upd_e rfl, ?_, ?_, ?_, ?_, t7, fun z => ?_⟩, ?_⟩, h5.1, fun x9 hx9 => by cases hx9; rfl⟩
        · rw [hc1, hc2]
          refine jw_go (by omega) (by rw [e2]; exact hs) ?_ K
          unfold f_X2_joinFree b_X2_joinFree_19 f_X3_addJoint
          rw [takeFree_ok _ _ _ (by omega), Option.bind_some, if_pos (hw1.trans c33), hw1, c33]
          dsimp only
          rw [a2, depthOf_ok h1 (by omega) a1, Option.bind_some, Option.bind_some, if_neg (show ¬ _ < _ from Int32.lt_irrefl), add_ok h1 hn (nar_ok (.inl rfl)), Option.bind_some, Option.bind_some]
          dsimp only
          rw [keepFree_ok _ _ _ _ (show E.length < 60 by omega), Option.bind_some]
        · show (if e.1 = 0 then (1 : Int32) else 0) = _
          rw [t3]
          unfold pv
          rw [app_1, app_2, if_pos rfl, cl _ (by omega), ← a3]
        · show (if e.1 = 0 then (1 : Int32) else 0) = 0 ∨ _
          by_cases z : e.1 = 0
          · right; show (if e.1 = 0 then (1 : Int32) else 0) = 1; rw [if_pos z]
          · left; rw [if_neg z]
        · show (1 : Int32) + e.2.1 = upd R.2.2.2.1 n _ n
          rw [upd_e rfl, a5]
        · show 1 + e.2.2 = _
          rw [t5]
          unfold lk1
          rw [app_1, app_2, if_pos rfl, cl _ (by omega), a6]
        · exact absurd (hxs n z).1 (Nat.lt_irrefl _)
        · refine Stk_keep hn h3 (.inr (.inl ⟨rfl, x, a1, rfl, rfl, a7⟩)) E X h9 (fun k hk => upd_n (by omega)) (fun y hy => .inr ?_)
          have hne : nI x ≠ nI y := fun z => a8 (by rw [(nI_eq (by omega) (by have := (hxs y hy).1; omega)).mp z]; exact hy)
          exact ⟨hne, hne⟩
      · rw [if_neg c33] at hj
        cases E with
        | nil => cases hj
        | cons a E =>
          cases X with
          | nil => exact h9.elim
          | cons y X =>
            obtain ⟨⟨b1, b2, b3, b4, b5, b6, b7, b8⟩, h10⟩ := h9
            have hys := Stk_lt E X h10
            have hc3 : (a :: E).length = E.length + 1 := rfl
            rw [hc3] at hE' a2 hc1
            have hxy : x ≠ y := fun z => a8 (by rw [z]; exact List.mem_cons_self)
            have hX : x ∉ X := fun z => a8 (List.mem_cons_of_mem _ z)
            have hcc : c = 38 ∨ c = 124 := by
              by_cases c1 : c = 38
              · exact .inl c1
              · by_cases c2 : c = 124
                · exact .inr c2
                · dsimp only at hj
                  rw [if_neg c1, if_neg c2] at hj; cases hj
            have hnew : (isL c ∧ nI y = nI 0 ∧ nI x = nI 0) ∨ (c = 33 ∧ ∃ x', x' < n ∧ nI y = nI x' ∧ nI x = nI x' ∧ nopar R n x') ∨ ((c = 38 ∨ c = 124) ∧ ∃ x' y', x' < n ∧ y' < n ∧ x' ≠ y' ∧ nI y = nI x' ∧ nI x = nI y' ∧ nopar R n x' ∧ nopar R n y') := .inr (.inr ⟨hcc, y, x, b1, a1, Ne.symm hxy, rfl, rfl, b7, a7⟩)
            obtain ⟨t1, t2, t3, t4, t5, t6, t7⟩ := app_ok (s := nI s) (d := (1 : Int32) + (if R.2.2.2.1 y < R.2.2.2.1 x then R.2.2.2.1 x else R.2.2.2.1 y)) hn h3 hnew
            have keep := Stk_keep (d := (1 : Int32) + (if R.2.2.2.1 y < R.2.2.2.1 x then R.2.2.2.1 x else R.2.2.2.1 y)) (fr' := upd fr E.length (nI n)) hn h3 hnew E X h10 (fun k hk => upd_n (by omega)) (fun z hz => .inr ⟨fun w => b8 (by rw [(nI_eq (by omega) (by have := (hys z hz).1; omega)).mp w]; exact hz), fun w => hX (by rw [(nI_eq (by omega) (by have := (hys z hz).1; omega)).mp w]; exact hz)⟩)
            have run : ∀ q V0 R0 K, b_X2_joinWaiting_0 q V0 R0 p K ((wt, fr, nI (c :: W).length, nI (e :: a :: E).length), R) = K ((wt, upd fr E.length (nI n), nI W.length, nI (E.length + 1)), app R c (nI y) (nI x) ((1 : Int32) + (if R.2.2.2.1 y < R.2.2.2.1 x then R.2.2.2.1 x else R.2.2.2.1 y)) n) := by
              intro q V0 R0 K
              rw [hc1, hc2]
              refine jw_go (by omega) (by rw [e2]; exact hs) ?_ K
              unfold f_X2_joinFree b_X2_joinFree_19 f_X3_addJoint
              rw [takeFree_ok (f := E.length + 1) _ _ _ (by omega), Option.bind_some, if_neg (by rw [hw1]; exact c33)]
              dsimp only
              rw [takeFree_ok _ _ _ (by omega), Option.bind_some]
              dsimp only
              rw [a2, b2, depthOf_ok h1 (by omega) b1, Option.bind_some, depthOf_ok h1 (by omega) a1, Option.bind_some, hw1, add_ok h1 hn (nar_ok (by
                rcases hcc with z | z
                · exact .inr (.inl z)
                · exact .inr (.inr (.inl z)))), Option.bind_some, Option.bind_some]
              dsimp only
              rw [keepFree_ok _ _ _ _ (show E.length < 60 by omega), Option.bind_some]
            have lkn : lk1 (app R c (nI y) (nI x) ((1 : Int32) + (if R.2.2.2.1 y < R.2.2.2.1 x then R.2.2.2.1 x else R.2.2.2.1 y)) n) (hv R (nI s) n) (lk R (hv R (nI s) n) n) n = (if c = 38 then (if a.1 = 0 then 1 + a.2.2 else 1 + a.2.2 + e.2.2) else (if a.1 = 0 then 1 + a.2.2 + e.2.2 else 1 + a.2.2)) := by
              unfold lk1
              rw [app_1, app_2, app_3, if_neg c33, cl _ (by omega), cl _ (by omega), ← b3, ← b6, ← a6]
              rcases hcc with z | z
              · rw [if_pos z, if_pos z]
              · have z' : ¬ c = 38 := by rw [z]; decide
                rw [if_neg z', if_neg z', if_pos z]
            have pvn : pv (app R c (nI y) (nI x) ((1 : Int32) + (if R.2.2.2.1 y < R.2.2.2.1 x then R.2.2.2.1 x else R.2.2.2.1 y)) n) (nI s) (hv R (nI s) n) n = (if c = 38 then (if a.1 = 0 then 0 else if e.1 = 0 then 0 else 1) else (if a.1 = 0 then (if e.1 = 0 then 0 else 1) else 1)) := by
              unfold pv
              rw [app_1, app_2, app_3, if_neg c33, cl _ (by omega), cl _ (by omega), ← b3, ← a3]
              rcases hcc with z | z
              · rw [if_pos z, if_pos z]
              · have z' : ¬ c = 38 := by rw [z]; decide
                rw [if_neg z', if_neg z', if_pos z]
            have dep : (1 : Int32) + (if a.2.1 < e.2.1 then e.2.1 else a.2.1) = (app R c (nI y) (nI x) ((1 : Int32) + (if R.2.2.2.1 y < R.2.2.2.1 x then R.2.2.2.1 x else R.2.2.2.1 y)) n).2.2.2.1 n := by
              show _ = upd R.2.2.2.1 n _ n
              rw [upd_e rfl, b5, a5]
            dsimp only at hj
            rcases hcc with z | z
            · rw [if_pos z] at hj
              obtain rfl := Option.some.inj hj
              refine ⟨_, run, wt, upd fr E.length (nI n), _, n :: X, rfl, hw2, rfl, t1, ⟨⟨by omega, upd_e rfl, ?_, ?_, dep, ?_, t7, fun z2 => absurd (hys n z2).1 (Nat.lt_irrefl _)⟩, keep⟩, h5.1, fun x9 hx9 => by cases hx9; rfl⟩
              · rw [t3, pvn, if_pos z]; rfl
              · show (if a.1 = 0 then (0 : Int32) else if e.1 = 0 then 0 else 1) = 0 ∨ (if a.1 = 0 then (0 : Int32) else if e.1 = 0 then 0 else 1) = 1
                repeat' split
                all_goals simp
              · rw [t5, lkn, if_pos z]
                show 1 + a.2.2 + (if a.1 = 0 then 0 else e.2.2) = _
                split <;> omega
            · have z' : ¬ c = 38 := by rw [z]; decide
              rw [if_neg z', if_pos z] at hj
              obtain rfl := Option.some.inj hj
              refine ⟨_, run, wt, upd fr E.length (nI n), _, n :: X, rfl, hw2, rfl, t1, ⟨⟨by omega, upd_e rfl, ?_, ?_, dep, ?_, t7, fun z2 => absurd (hys n z2).1 (Nat.lt_irrefl _)⟩, keep⟩, h5.1, fun x9 hx9 => by cases hx9; rfl⟩
              · rw [t3, pvn, if_neg z']; rfl
              · show (if a.1 = 0 then (if e.1 = 0 then (0 : Int32) else 1) else 1) = 0 ∨ (if a.1 = 0 then (if e.1 = 0 then (0 : Int32) else 1) else 1) = 1
                repeat' split
                all_goals simp
              · rw [t5, lkn, if_neg z']
                show 1 + a.2.2 + (if a.1 = 0 then e.2.2 else 0) = _
                split <;> omega
theorem jwl_le {p : Int32} : ∀ (W : List Int32) (E : List En) (n : Nat) {W' : List Int32} {E' : List En} {n' : Nat}, jwl p W E n = some (W', E', n') → n ≤ n'
  | [], E, n, W', E', n', h => by
    cases h; exact Nat.le_refl _
  | c :: W, E, n, W', E', n', h => by
    unfold jwl at h
    by_cases q : st c < p
    · rw [if_pos q] at h; cases h; exact Nat.le_refl _
    · rw [if_neg q] at h
      obtain ⟨E2, -, h2⟩ := bind_s h
      exact Nat.le_of_succ_le (jwl_le W E2 (n + 1) h2)
theorem jw_run {s : Nat} {p lm : Int32} : ∀ (W : List Int32) (E : List En) (n : Nat) (S : Rd × Ru) {W' : List Int32} {E' : List En} {n' : Nat}, RSt s S W E n lm → jwl p W E n = some (W', E', n') → n' ≤ 60 → E.length ≤ 59 → W.length < 59 →
    ∃ S', (∀ q V0 R0 m, lp (b_X2_joinWaiting_0 q V0 R0 p) (W.length + 1 + m) S = some S') ∧ RSt s S' W' E' n' lm
  | [], E, n, S, W', E', n', h, hj, hn, hE, hW => by
    cases hj
    obtain ⟨wt, fr, R, X, rfl, hw⟩ := h
    refine ⟨((wt, fr, nI 0, nI E.length), R), fun q V0 R0 m => ?_, wt, fr, R, X, rfl, hw⟩
    rw [show ([] : List Int32).length + 1 + m = m + 1 from by simp; omega]
    exact jw_stop (w := 0) (by omega) (.inl rfl) _
  | c :: W, E, n, S, W', E', n', h, hj, hn, hE, hW => by
    unfold jwl at hj
    by_cases q : st c < p
    · rw [if_pos q] at hj
      cases hj
      refine ⟨S, fun q9 V0 R0 m => ?_, h⟩
      obtain ⟨wt, fr, R, X, rfl, hw, -⟩ := h
      rw [show (c :: W).length + 1 + m = (W.length + 1 + m) + 1 from by simp only [List.length_cons]; omega]
      exact jw_stop (w := W.length + 1) (by simp only [List.length_cons] at hW; omega) (.inr (by rw [Nat.add_sub_cancel, hw.1]; exact q)) _
    · rw [if_neg q] at hj
      obtain ⟨E2, h1, h2⟩ := bind_s hj
      have hle := jwl_le W E2 (n + 1) h2
      obtain ⟨S1, k1, k2⟩ := jw_step h h1 (by omega) hE (by simp only [List.length_cons] at hW; omega) q
      obtain ⟨S2, k3, k4⟩ := jw_run W E2 (n + 1) S1 k2 h2 hn (Nat.le_trans (jn_len h1) hE) (by simp only [List.length_cons] at hW; omega)
      refine ⟨S2, fun q9 V0 R0 m => ?_, k4⟩
      rw [show (c :: W).length + 1 + m = (W.length + 1 + m) + 1 from by simp only [List.length_cons]; omega]
      show b_X2_joinWaiting_0 q9 V0 R0 p (lp (b_X2_joinWaiting_0 q9 V0 R0 p) (W.length + 1 + m)) S = _
      rw [k1]
      exact k3 q9 V0 R0 m
theorem joinWaiting_ok {s n n' N : Nat} {p lm : Int32} {W W' : List Int32} {E E' : List En} {S : Rd × Ru} (hN : 5000 ≤ N) (h : RSt s S W E n lm) (hj : jwl p W E n = some (W', E', n')) (hn : n' ≤ 60) (hE : E.length ≤ 59) (hW : W.length < 59) :
    ∃ S', f_X2_joinWaiting N S.1 S.2 p = some S' ∧ RSt s S' W' E' n' lm := by
  obtain ⟨S', k1, k2⟩ := jw_run W E n S h hj hn hE hW
  refine ⟨S', ?_, k2⟩
  unfold f_X2_joinWaiting
  obtain ⟨m, rfl⟩ : ∃ m, N = W.length + 1 + m := ⟨N - (W.length + 1), by omega⟩
  exact k1 _ _ _ m
