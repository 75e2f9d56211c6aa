/-! PURE: the text on the pad: read from it, no fault in it, a sign more -/
def PadL (V : Pd) (l : List Int32) : Prop := V.2 = nI l.length ∧ l.length ≤ 60 ∧ ∀ k, k < l.length → l[k]? = some (V.1 k)
theorem read_list {N nt : Nat} {Tt : Fn} {V : Rd} {p1 : Int32} (hnt : nt < 2 ^ 31) : ∀ (l2 : List Int32) (j : Nat) (S : Rd × Ru) (m : Nat), (∀ k, k < l2.length → l2[k]? = some (Tt (j + k))) → p1 = nI (j + l2.length) → j + l2.length ≤ nt →
    lp (b_X2_read_21 N V nt Tt p1) (l2.length + 1 + m) (S.1, S.2, nI j) = (rdL N l2 S).bind fun S1 => (f_X2_joinWaiting N S1.1 S1.2 1).bind fun o1 => some (o1.1, o1.2)
  | [], j, S, m, _, hp, hj => by
    rw [show ([] : List Int32).length + 1 + m = m + 1 from by simp; omega]
    show b_X2_read_21 N V nt Tt p1 _ (S.1, S.2, nI j) = _
    unfold b_X2_read_21
    rw [hp]
    refine (if_pos (nI_le (Nat.le_refl _) (by simp at hj; simp; omega))).trans ?_
    rfl
  | c :: l, j, S, m, hk, hp, hj => by
    have h0 := hk 0 (Nat.zero_lt_succ _)
    have hc : c = Tt j := by simpa using h0
    simp only [List.length_cons] at hp hj
    rw [show (c :: l).length + 1 + m = (l.length + 1 + m) + 1 from by simp only [List.length_cons]; omega]
    show b_X2_read_21 N V nt Tt p1 (lp (b_X2_read_21 N V nt Tt p1) (l.length + 1 + m)) (S.1, S.2, nI j) = _
    unfold b_X2_read_21
    dsimp only
    rw [hp, if_neg (nI_ge (by omega) (by omega)), if_neg (show ¬ Int32.ofNat nt ≤ nI j from nI_ge (by omega) hnt), ix_nI (by omega) hnt, cl j (by omega), ← hc]
    show (f_X2_take N S.1 S.2 c).bind _ = ((f_X2_take N S.1 S.2 c).bind (rdL N l)).bind _
    cases f_X2_take N S.1 S.2 c with
    | none => rfl
    | some S1 =>
      show lp (b_X2_read_21 N V nt Tt _) (l.length + 1 + m) (S1.1, S1.2, nI j + 1) = _
      rw [nI_1, ← hp]
      exact read_list hnt l (j + 1) S1 m (fun k hk' => by
        have := hk (k + 1) (by simp only [List.length_cons]; omega)
        rw [show j + 1 + k = j + (k + 1) from by omega]
        simpa using this) (by rw [hp]; congr 1; omega) (by omega)
theorem RSt_0 (s : Nat) (wt fr : Fn) : RSt s ((wt, fr, 0, 0), ((fun _ => 0), (fun _ => 0), (fun _ => 0), (fun _ => 0), 0, 0)) [] [] 0 0 :=
  ⟨wt, fr, _, [], rfl, trivial, rfl, ⟨fun i hi => absurd hi (Nat.not_lt_zero _), fun i j c hi => absurd hi (Nat.not_lt_zero _)⟩, trivial, rfl, fun x hx => by cases hx⟩
/-- what a rule means: for each sensors s its value, how many parts are looked at; its parts, depth, letters -/
def Mean (R : Ru) (v : Nat → En) (n : Nat) (lm : Int32) : Prop := R.2.2.2.2.1 = nI n ∧ R.2.2.2.2.2 = lm ∧ 1 ≤ n ∧ n ≤ 60 ∧ ∀ (N : Nat), 5000 ≤ N → ∀ s, s < 256 → ((v s).1 = 0 ∨ (v s).1 = 1) ∧ f_X3_holds N R (nI s) = some (v s).1 ∧ f_X3_lookedAt N R (nI s) = some (nI (v s).2.2) ∧ f_X3_depth R = some (v s).2.1
theorem mean_of {S : Rd × Ru} {v : Nat → En} {n : Nat} {lm : Int32} (h : ∀ s, s < 256 → RSt s S [] [v s] n lm) (h1 : 1 ≤ n) (h2 : n ≤ 60) : Mean S.2 v n lm := by
  have g := h 0 (by omega)
  obtain ⟨wt, fr, R, X, rfl, hw, e1, e2, e3, e4, -⟩ := g
  refine ⟨e1, e4, h1, h2, fun N hN s hs => ?_⟩
  obtain ⟨wt', fr', R', X', e, hw', f1, f2, f3, f4, f5⟩ := h s hs
  obtain ⟨ea, eb⟩ := Prod.mk.inj e
  subst eb
  cases X' with
  | nil => exact f3.elim
  | cons x X' =>
    obtain ⟨⟨a1, a2, a3, a4, a5, a6, a7, a8⟩, -⟩ := f3
    have hx : x = n - 1 := by have := f5 x rfl; omega
    subst hx
    have nd : ∀ i, i < n → nodeOK R i := fun i hi => tree_node h2 e2 hi
    obtain ⟨b1, b2⟩ := holds_ok hN hs ⟨h1, h2⟩ e1 nd
    refine ⟨a4, by rw [a3]; exact b1, by rw [a6]; exact lookedAt_ok hN hs ⟨h1, h2⟩ e1 e2, ?_⟩
    unfold f_X3_depth
    obtain ⟨k, rfl⟩ : ∃ k, n = k + 1 := ⟨n - 1, by omega⟩
    rw [e1, nI_pred, depthOf_ok e1 (by omega) (by omega), Option.bind_some, a5]
    rfl
/-! no fault -/
def FFr (l : List Int32) (d : Int32) (o : Nat) (d' : Int32) (o' : Nat) : Prop := ∀ (N : Nat) (V : Pd) (len j : Nat), V.2 = nI len → len ≤ 60 → j + l.length ≤ len → (∀ k, k < l.length → l[k]? = some (V.1 (j + k))) → ∀ m, lp (b_X1_findFault_6 N V) (l.length + m) (d, nI o, nI j) = lp (b_X1_findFault_6 N V) m (d', nI o', nI (j + l.length))
theorem FFr_app {a b : List Int32} {d d1 d2 : Int32} {o o1 o2 : Nat} (h1 : FFr a d o d1 o1) (h2 : FFr b d1 o1 d2 o2) : FFr (a ++ b) d o d2 o2 := by
  intro N V len j e hl hj hk m
  rw [List.length_append] at hj ⊢
  rw [Nat.add_assoc, h1 N V len j e hl (by omega) (fun k hk' => by
    have := hk k (by rw [List.length_append]; omega)
    rwa [List.getElem?_append_left hk'] at this) (b.length + m), h2 N V len (j + a.length) e hl (by omega) (fun k hk' => by
    have := hk (a.length + k) (by rw [List.length_append]; omega)
    rw [List.getElem?_append_right (by omega), Nat.add_sub_cancel_left] at this
    rw [Nat.add_assoc]; exact this) m, Nat.add_assoc]
theorem FFr_nil (d : Int32) (o : Nat) : FFr [] d o d o := by
  intro N V len j e hl hj hk m
  show lp _ (0 + m) _ = lp _ m (d, nI o, nI (j + 0))
  rw [Nat.zero_add, Nat.add_zero]
theorem FFr_1 {c d d' : Int32} {o o' : Nat} (h : ∀ (N : Nat) (V : Pd) (i len : Nat) K, V.2 = nI len → len ≤ 60 → i < len → V.1 i = c → b_X1_findFault_6 N V K (d, nI o, nI i) = K (d', nI o', nI (i + 1))) : FFr [c] d o d' o' := by
  intro N V len j e hl hj hk m
  have h0 := hk 0 (by simp)
  have hc : c = V.1 j := by simpa using h0
  simp only [List.length_singleton] at hj ⊢
  rw [Nat.add_comm 1 m]
  exact h N V j len _ e hl (by omega) hc.symm
theorem ff_pre {N i len : Nat} {V : Pd} {K : Int32 × Int32 × Int32 → Option Int32} {d o : Int32} (e : V.2 = nI len) (hl : len ≤ 60) (hi : i < len) : b_X1_findFault_6 N V K (d, o, nI i) = (if d = 0 then ((f_X1_followsPart V (V.1 i) o).bind fun o11 => (if o11 = 0 then b_X1_findFault_54 N V (nI i) else b_X1_findFault_56 N V K (d, o, nI i, V.1 i))) else ((f_X1_beginsPart V (V.1 i)).bind fun o14 => (if o14 = 0 then b_X1_findFault_54 N V (nI i) else b_X1_findFault_56 N V K (d, o, nI i, V.1 i)))) := by
  unfold b_X1_findFault_6
  dsimp only
  rw [e, if_neg (nI_ge hi (by omega)), if_neg (show ¬ (60 : Int32) ≤ nI i from nI_ge (b := 60) (by omega) (by decide)), ix_nI (show i < 60 by omega) (by decide), cl i (by omega)]
theorem isL_X1 {c : Int32} (h : isL c) (V : Pd) : f_X1_isLetter V c = some 1 := by
  unfold f_X1_isLetter b_X1_isLetter_12 b_X1_isLetter_24 b_X1_isLetter_29
  rcases h with rfl | rfl | rfl | rfl | rfl | rfl | rfl | rfl
  · rw [if_pos (by decide), if_neg (by decide), if_neg (by decide)]; exact zb_ok (.inr rfl)
  · rw [if_pos (by decide), if_neg (by decide), if_neg (by decide)]; exact zb_ok (.inr rfl)
  · rw [if_pos (by decide), if_neg (by decide), if_neg (by decide)]; exact zb_ok (.inr rfl)
  · rw [if_pos (by decide), if_neg (by decide), if_neg (by decide)]; exact zb_ok (.inr rfl)
  · rw [if_neg (by decide), if_pos (by decide)]; exact zb_ok (.inr rfl)
  · rw [if_neg (by decide), if_pos (by decide)]; exact zb_ok (.inr rfl)
  · rw [if_neg (by decide), if_pos (by decide)]; exact zb_ok (.inr rfl)
  · rw [if_neg (by decide), if_pos (by decide)]; exact zb_ok (.inr rfl)
theorem FF_40 (o : Nat) : FFr [40] 1 o 1 (o + 1) := FFr_1 (fun N V i len K e hl hi hc => by
  rw [ff_pre e hl hi, if_neg (show ¬ (1 : Int32) = 0 by decide), hc]
  unfold f_X1_beginsPart b_X1_beginsPart_20 b_X1_beginsPart_25 b_X1_findFault_56 b_X1_findFault_99
  rw [if_pos rfl, zb_ok (.inr rfl), Option.bind_some, if_neg (show ¬ (1 : Int32) = 0 by decide)]
  dsimp only
  rw [if_pos rfl, nI_1, nI_1])
theorem FF_33 (o : Nat) : FFr [33] 1 o 1 o := FFr_1 (fun N V i len K e hl hi hc => by
  rw [ff_pre e hl hi, if_neg (show ¬ (1 : Int32) = 0 by decide), hc]
  unfold f_X1_beginsPart b_X1_beginsPart_20 b_X1_beginsPart_25 b_X1_findFault_56 b_X1_findFault_99
  rw [if_neg (show ¬ (33 : Int32) = 40 by decide), if_pos rfl, zb_ok (.inr rfl), Option.bind_some, if_neg (show ¬ (1 : Int32) = 0 by decide)]
  dsimp only
  rw [if_neg (show ¬ (33 : Int32) = 40 by decide), if_neg (show ¬ (33 : Int32) = 41 by decide), if_pos rfl, nI_1])
theorem FF_L {c : Int32} (h : isL c) (o : Nat) : FFr [c] 1 o 0 o := FFr_1 (fun N V i len K e hl hi hc => by
  have k40 : ¬ c = 40 := by rcases h with rfl | rfl | rfl | rfl | rfl | rfl | rfl | rfl <;> decide
  have k41 : ¬ c = 41 := by rcases h with rfl | rfl | rfl | rfl | rfl | rfl | rfl | rfl <;> decide
  have k33 := (isL_ne h).1
  rw [ff_pre e hl hi, if_neg (show ¬ (1 : Int32) = 0 by decide), hc]
  unfold f_X1_beginsPart b_X1_beginsPart_20 b_X1_beginsPart_25 b_X1_findFault_56 b_X1_findFault_98 b_X1_findFault_99
  rw [if_neg k40, if_neg k33, isL_X1 h, Option.bind_some, if_neg (show ¬ (1 : Int32) = 0 by decide), zb_ok (.inr rfl), Option.bind_some, if_neg (show ¬ (1 : Int32) = 0 by decide)]
  dsimp only
  rw [if_neg k40, if_neg k41, if_neg k33, if_neg (show ¬ (1 : Int32) = 0 by decide), nI_1])
theorem FF_op {c : Int32} (h : c = 38 ∨ c = 124) (o : Nat) : FFr [c] 0 o 1 o := FFr_1 (fun N V i len K e hl hi hc => by
  have k40 : ¬ c = 40 := by rcases h with rfl | rfl <;> decide
  have k41 : ¬ c = 41 := by rcases h with rfl | rfl <;> decide
  have k33 : ¬ c = 33 := by rcases h with rfl | rfl <;> decide
  have k : f_X1_followsPart V c (nI o) = some 1 := by
    unfold f_X1_followsPart b_X1_followsPart_22 b_X1_followsPart_27
    rcases h with rfl | rfl
    · rw [if_pos rfl]; exact zb_ok (.inr rfl)
    · rw [if_neg (show ¬ (124 : Int32) = 38 by decide), if_pos rfl]; exact zb_ok (.inr rfl)
  rw [ff_pre e hl hi, if_pos rfl, hc, k, Option.bind_some, if_neg (show ¬ (1 : Int32) = 0 by decide)]
  unfold b_X1_findFault_56 b_X1_findFault_98 b_X1_findFault_99
  dsimp only
  rw [if_neg k40, if_neg k41, if_neg k33, if_pos rfl, nI_1])
theorem FF_41 {o : Nat} (ho : o < 1000) : FFr [41] 0 (o + 1) 0 o := FFr_1 (fun N V i len K e hl hi hc => by
  rw [ff_pre e hl hi, if_pos rfl, hc]
  unfold f_X1_followsPart b_X1_followsPart_22 b_X1_followsPart_27 b_X1_findFault_56 b_X1_findFault_99
  rw [if_neg (show ¬ (41 : Int32) = 38 by decide), if_neg (show ¬ (41 : Int32) = 124 by decide), if_pos rfl, if_neg (nI_nle (by omega) (by omega)), zb_ok (.inr rfl), Option.bind_some, if_neg (show ¬ (1 : Int32) = 0 by decide)]
  dsimp only
  rw [if_neg (show ¬ (41 : Int32) = 40 by decide), if_pos rfl, nI_pred, nI_1])
theorem FF_ptx {q : Prt} (h : okP q) : FFr (ptx q) 1 0 0 0 := by
  have core : FFr (if q.2.1 then [40, q.2.2.1, 124, q.2.2.2, 41] else [q.2.2.1]) 1 0 0 0 := by
    by_cases c : q.2.1 = true
    · rw [if_pos c]
      exact FFr_app (FF_40 0) (FFr_app (FF_L h.1 1) (FFr_app (FF_op (.inr rfl) 1) (FFr_app (FF_L h.2 1) (FF_41 (by omega)))))
    · rw [if_neg c]
      exact FF_L h.1 0
  unfold ptx
  by_cases c : q.1 = true
  · rw [if_pos c]; exact FFr_app (FF_33 0) core
  · rw [if_neg c]; exact core
theorem FF_row {Q : Nat → Prt} (h : ∀ p, okP (Q p)) : ∀ p, FFr (rowT Q (p + 1)) 1 0 0 0
  | 0 => FF_ptx (h 0)
  | p + 1 => by
    show FFr (rowT Q (p + 1) ++ ([38] ++ ptx (Q (p + 1)))) 1 0 0 0
    exact FFr_app (FF_row h p) (FFr_app (FF_op (.inl rfl) 0) (FF_ptx (h _)))
theorem FF_rule {P : Nat → Nat → Prt} {pc : Nat → Nat} (h : ∀ r p, okP (P r p)) : ∀ r, FFr (rulT P pc (r + 1)) 1 0 0 0
  | 0 => FF_row (h 0) (pc 0)
  | r + 1 => by
    show FFr (rulT P pc (r + 1) ++ ([124] ++ rowT (P (r + 1)) (pc (r + 1) + 1))) 1 0 0 0
    exact FFr_app (FF_rule h r) (FFr_app (FF_op (.inr rfl) 0) (FF_row (h _) _))
theorem noFault {V : Pd} {l : List Int32} {N : Nat} (hN : 5000 ≤ N) (hp : PadL V l) (h : FFr l 1 0 0 0) : f_X1_findFault N V = some (-6) := by
  obtain ⟨h1, h2, h3⟩ := hp
  unfold f_X1_findFault
  obtain ⟨m, rfl⟩ : ∃ m, N = l.length + (m + 1) := ⟨N - l.length - 1, by omega⟩
  have e := h (l.length + (m + 1)) V l.length 0 h1 h2 (by omega) (fun k hk => by rw [Nat.zero_add]; exact h3 k hk) (m + 1)
  refine e.trans ?_
  show b_X1_findFault_6 _ V _ (0, nI 0, nI (0 + l.length)) = _
  unfold b_X1_findFault_6 b_X1_findFault_105
  rw [h1, Nat.zero_add]
  refine (if_pos (nI_le (Nat.le_refl _) (by omega))).trans ?_
  rfl
/-! a sign is typed -/
def sgL : List Int32 := [33, 38, 40, 41, 124, 65, 66, 67, 68, 97, 98, 99, 100]
theorem sg_tab : ∀ c, c ∈ sgL → (¬ lg_cmp (Int32.toInt64 c) (0 : Int64) = 0) ∧ (¬ lg_cmp (Int32.toInt64 c &&& (255 : Int64)) (33 : Int64) < 0) ∧ lg_cmp (Int32.toInt64 c &&& (255 : Int64)) (126 : Int64) ≤ 0 ∧ lg_cmp ((Int64.toUInt64 (Int32.toInt64 c) >>> ((Int32.toInt64 (8 : Int32)).toUInt64 &&& Int64.toUInt64 63)).toInt64) (0 : Int64) = 0 ∧
    vp_nar .char ((Int32.toUInt32 (Int64.toInt32 ((Int64.toUInt64 (Int32.toInt64 c) >>> ((Int32.toInt64 ((8 : Int32) * (0 : Int32))).toUInt64 &&& Int64.toUInt64 63)).toInt64 &&& (255 : Int64))) % 65536).toInt32) = c := by decide +kernel
theorem sg_L {c : Int32} (h : isL c) : c ∈ sgL := by
  rcases h with rfl | rfl | rfl | rfl | rfl | rfl | rfl | rfl <;> decide
def pdW (f : Fn) (l : List Int32) : Pd := (fun k => (l[k]?).getD (f k), nI l.length)
theorem pdW_in {f : Fn} {l : List Int32} (h : l.length ≤ 60) : PadL (pdW f l) l := ⟨rfl, h, fun k hk => by
  show l[k]? = some ((l[k]?).getD (f k))
  rw [List.getElem?_eq_getElem hk]; rfl⟩
theorem pdW_s (f : Fn) (l : List Int32) (c : Int32) : (upd (pdW f l).1 l.length c, nI (l.length + 1)) = pdW f (l ++ [c]) := by
  refine Prod.ext ?_ (by show nI (l.length + 1) = nI (l ++ [c]).length; rw [List.length_append]; rfl)
  funext k
  show upd (fun k => (l[k]?).getD (f k)) l.length c k = ((l ++ [c])[k]?).getD (f k)
  by_cases q : k = l.length
  · subst q
    rw [upd_e rfl, List.getElem?_append_right (Nat.le_refl _), Nat.sub_self]; rfl
  · rw [upd_n q]
    by_cases q2 : k < l.length
    · rw [List.getElem?_append_left q2]
    · rw [List.getElem?_eq_none (by omega), List.getElem?_eq_none (by rw [List.length_append]; simp; omega)]
theorem type_ok {N : Nat} {f : Fn} {Vn : St} {Vh : Hb} {k0 k1 k2 k3 k4 k5 : St} {l : List Int32} {c : Int32} (hN : 5000 ≤ N) (hl : l.length < 60) (hc : c ∈ sgL) :
    f_L_type N (pdW f l) Vn Vh k0 k1 k2 k3 k4 k5 c = some (1, pdW f (l ++ [c])) := by
  have h1 : (pdW f l).2 = nI l.length := rfl
  rw [← pdW_s]
  generalize pdW f l = Vp at *
  obtain ⟨t1, t2, t3, t4, t5⟩ := sg_tab c hc
  have e1 : f_X1_charactersIn N Vp (Int32.toInt64 c) = some 1 := by
    unfold f_X1_charactersIn
    obtain ⟨m, rfl⟩ : ∃ m, N = m + 2 := ⟨N - 2, by omega⟩
    show b_X1_charactersIn_5 _ Vp _ (fun s => b_X1_charactersIn_5 _ Vp _ (lp _ m) s) (Int32.toInt64 c, 0) = _
    unfold b_X1_charactersIn_5 b_X1_charactersIn_56
    dsimp only
    rw [if_neg (by decide), if_neg t1, if_neg t2, if_pos t3, if_neg (by decide), if_pos t4]
    rfl
  have e2 : f_X1_append N Vp (Int32.toInt64 c) 1 = some (upd Vp.1 l.length c, nI (l.length + 1)) := by
    unfold f_X1_append
    obtain ⟨m, rfl⟩ : ∃ m, N = m + 2 := ⟨N - 2, by omega⟩
    rw [show (1 : Int32) - 1 = 0 from by decide]
    show b_X1_append_5 _ Vp _ _ (fun s => b_X1_append_5 _ Vp _ _ (lp _ m) s) (Vp, 0) = _
    unfold b_X1_append_5 b_X1_append_57
    dsimp only
    rw [if_neg (by decide), h1, if_neg (show ¬ (60 : Int32) ≤ nI l.length from nI_ge (b := 60) hl (by decide)), ix_nI hl (by decide), cl _ (by omega), t5, if_pos (by decide), nI_1]
  unfold f_L_type f_X5_count f_X5_put b_L_type_24
  rw [if_pos rfl, Option.bind_some, e1, Option.bind_some, if_neg (by decide), h1, show (60 : Int32) - nI l.length = nI (60 - l.length) from pk_sub (a := 60) (by omega), if_pos (show (1 : Int32) ≤ nI (60 - l.length) from nI_le (a := 1) (by omega) (by omega)), e2, Option.bind_some, Option.bind_some]
  dsimp only
  rw [nI_1, if_pos rfl]
  exact zb_ok (.inr rfl)
