/-! PURE: the law's stops says yes, and all is as before -/
theorem stops_ok {N T : Nat} {Vp : Pd} {Vn Vm : St} {Vh : Hb} {k0 k1 k2 k3 k4 k5 : St} {X : Xs} {ρ : Nat → Option Ru} {R : Ru} {v : Nat → En} {nn : Nat} {lm g : Int32} (hN : 5000 ≤ N) (hX : RelX Vn X) (H : HS Vh (KK k0 k1 k2 k3 k4 k5) []) (hA : WA T X.1) (hT : T < 2 ^ 27) (ht : X.1.2.2.2.2.2.1 + 1000 ≤ 99999) (hst : X.2.2 < 2 ^ 30) (hρ : ρ X.2.1 = some R) (hM : Mean R v nn lm) :
    Back (f_L_stops N Vp Vn Vm Vh k0 k1 k2 k3 k4 k5 ρ g) X := by
  obtain ⟨m1, e1⟩ := way_ok (Vm := Vm) hN hX.1 hA (by omega)
  have hs1 := hA.1.2.2.1
  have hs2 := hA.1.2.2.2.1
  have hW := wayR_le hA ⟨hs1, hs2⟩
  have eW : wayR X.1 (X.1.1 2) = svA 91 (stopB X.1) := by
    unfold wayR; rw [updN_self]
  obtain ⟨W, hWe⟩ : ∃ W, W = wayR X.1 (X.1.1 2) := ⟨_, rfl⟩
  rw [← hWe] at e1 hW
  have hv90 := hA.2.2.2.2.2.1
  have hmd := hA.2.2.2.2.1
  have eρ : ∀ W : St, W.2.2.2.2.2.2.1 = X.2.1 → ρ W.2.2.2.2.2.2.1 = some R := fun W h => by rw [h]; exact hρ
  have e327 : ∀ (n m : St) (h : Hb) (q0 q1 q2 q3 q4 q5 : St), RelX n X → HS h (KK q0 q1 q2 q3 q4 q5) [] → Back (b_L_stops_327 N Vp Vn Vm Vh k0 k1 k2 k3 k4 k5 ρ g (n, m, h, q0, q1, q2, q3, q4, q5, 1)) X :=
    fun n m h q0 q1 q2 q3 q4 q5 hx hh => ⟨n, m, h, q0, q1, q2, q3, q4, q5, zb_ok (.inr rfl), hx, hh⟩
  have e295 : ∀ (n m : St) (h : Hb) (q0 q1 q2 q3 q4 q5 : St), HS h (KK q0 q1 q2 q3 q4 q5) [X] → Back (b_L_stops_295 N Vp Vn Vm Vh k0 k1 k2 k3 k4 k5 ρ g (n, m, h, q0, q1, q2, q3, q4, q5, nI W)) X := by
    intro n m h q0 q1 q2 q3 q4 q5 hh
    obtain ⟨a, n', h', u1, u2, u3, u4⟩ := undo_h (Vn := n) hh
    obtain ⟨m', w1⟩ := way_ok (Vm := m) hN u3.1 hA (by omega)
    rw [← hWe] at w1
    unfold b_L_stops_295 b_L_stops_300
    dsimp only
    rw [if_neg k10.mp, u1, Option.bind_some]
    dsimp only
    rw [if_neg (nI_pos (by omega)), w1, Option.bind_some]
    dsimp only
    rw [if_pos rfl]
    exact e327 _ _ _ _ _ _ _ _ _ u3 u4
  have eFin : ∀ (n m : St) (h : Hb) (q0 q1 q2 q3 q4 q5 : St) (st k : Nat) K, RelX n X → HS h (KK q0 q1 q2 q3 q4 q5) [] → st ≤ k → k < 10 → Back (b_L_stops_188 N Vp Vn Vm Vh k0 k1 k2 k3 k4 k5 ρ g K (n, m, h, q0, q1, q2, q3, q4, q5, nI W, nI st, 1, nI k)) X := by
    intro n m h q0 q1 q2 q3 q4 q5 st k K hx hh hk hk2
    obtain ⟨c, m2, l1, l2, l3, l4, l5⟩ := leastRamp_ok (Vm := m) (u := W) hN hx.1 hA (by omega) (by omega) (by omega)
    have hlow := lowN_lt g (n := 30) (by omega)
    obtain ⟨j, hj⟩ : ∃ j, j = 1 + lowN g 30 := ⟨_, rfl⟩
    obtain ⟨n2, h2, p0, p1, p2, p3, p4, p5, s1, s2, s3⟩ := set_ok (j := 2) (x := j) hh (by simp) hx hA.2.1 (by omega) (show ¬ nI j < nI 1 from nI_nlt (by omega) (by omega)) (show nI j ≤ nI 30 from nI_le (by omega) (by omega))
    have s1' : f_X5_set n h q0 q1 q2 q3 q4 q5 2 (nI j) = some (nI (X.1.1 2), n2, h2, p0, p1, p2, p3, p4, p5) := s1
    have hA2 : WA T (updN X.1.1 2 j, X.1.2.1, X.1.2.2.1, X.1.2.2.2.1, X.1.2.2.2.2.1, X.1.2.2.2.2.2.1, X.1.2.2.2.2.2.2.1, X.1.2.2.2.2.2.2.2.1, X.1.2.2.2.2.2.2.2.2.1, X.1.2.2.2.2.2.2.2.2.2) := WA_ramp hA ⟨by omega, by omega⟩
    obtain ⟨m3, w1⟩ := way_ok (Vm := m2) hN s2.1 hA2 (by omega)
    have w2 : f_X5_way N n2 m2 = some (nI (wayR X.1 j), m3) := by
      rw [w1]
      refine congrArg (fun z => some (nI z, m3)) ?_
      show svA 91 (stopB (updN (updN X.1.1 2 j) 2 (updN X.1.1 2 j 2), X.1.2.1, X.1.2.2.1, X.1.2.2.2.1, X.1.2.2.2.2.1, X.1.2.2.2.2.2.1, X.1.2.2.2.2.2.2.1, X.1.2.2.2.2.2.2.2.1, X.1.2.2.2.2.2.2.2.2.1, X.1.2.2.2.2.2.2.2.2.2)) = _
      rw [updN_self]; rfl
    have hwj := wayR_le hA (c := j) ⟨by omega, by omega⟩
    have elow : f_L_low g (30 : Int32) = some (nI (lowN g 30)) := low_ok g (n := 30) (by omega) (by decide)
    have esum : (1 : Int32) + nI (lowN g 30) = nI j := by rw [hj, show (1 : Int32) = nI 1 from rfl, nI_add]
    unfold b_L_stops_188
    dsimp only
    rw [if_pos (nI_le hk (by omega)), l1, Option.bind_some, elow, Option.bind_some, esum]
    dsimp only
    rw [s1', Option.bind_some]
    dsimp only
    rw [if_neg k10.mp, if_neg (show ¬ nI (X.1.1 2) < (1 : Int32) from nI_nlt (b := 1) hs1 (by omega)), if_neg (show ¬ nI c < (1 : Int32) from nI_nlt (b := 1) l2 (by omega)), if_neg (show ¬ nI (X.1.1 2) < nI c from nI_nlt l3 (by omega)), w2, Option.bind_some]
    dsimp only
    by_cases d : W < wayR X.1 j
    · rw [if_pos (nI_lt d (by omega)), if_neg (show ¬ nI j = nI c from fun z => by
        have := (nI_eq (by omega) (by omega)).mp z
        rw [this] at d; omega)]
      exact e295 _ _ _ _ _ _ _ _ _ s3
    · rw [if_neg (nI_nlt (by omega) (by omega)), if_neg (show ¬ nI j < nI c from nI_nlt (by
        rcases Nat.lt_or_ge j c with q | q
        · exact absurd (l5 j (by omega) q) d
        · exact q) (by omega))]
      exact e295 _ _ _ _ _ _ _ _ _ s3
  have eUn : ∀ (n m : St) (h : Hb) (q0 q1 q2 q3 q4 q5 : St) (st k : Nat) (Y : Xs) (L : List Xs) K, HS h (KK q0 q1 q2 q3 q4 q5) (Y :: L) → k < st → st < 10 → ∃ n' h', b_L_stops_188 N Vp Vn Vm Vh k0 k1 k2 k3 k4 k5 ρ g K (n, m, h, q0, q1, q2, q3, q4, q5, nI W, nI st, 1, nI k) = K (n', m, h', q0, q1, q2, q3, q4, q5, nI W, nI st, 1, nI (k + 1)) ∧ RelX n' Y ∧ HS h' (KK q0 q1 q2 q3 q4 q5) L := by
    intro n m h q0 q1 q2 q3 q4 q5 st k Y L K hh hk hst'
    obtain ⟨a, n', h', u1, u2, u3, u4⟩ := undo_h (Vn := n) hh
    refine ⟨n', h', ?_, u3, u4⟩
    unfold b_L_stops_188 b_L_stops_212
    dsimp only
    rw [if_neg (nI_ge hk (by omega)), if_neg k10.mp, u1, Option.bind_some]
    dsimp only
    rw [if_neg (nI_pos (by omega)), nI_1]
  have l0 : ∀ (M : Nat) (n m : St) (h : Hb) (q0 q1 q2 q3 q4 q5 : St) (st : Nat), RelX n X → HS h (KK q0 q1 q2 q3 q4 q5) [] → st < 10 → Back (lp (b_L_stops_188 N Vp Vn Vm Vh k0 k1 k2 k3 k4 k5 ρ g) (M + 1) (n, m, h, q0, q1, q2, q3, q4, q5, nI W, nI st, 1, nI st)) X :=
    fun M n m h q0 q1 q2 q3 q4 q5 st hx hh hst' => eFin n m h q0 q1 q2 q3 q4 q5 st st _ hx hh (Nat.le_refl _) hst'
  have l1 : ∀ (M : Nat) (n m : St) (h : Hb) (q0 q1 q2 q3 q4 q5 : St) (k : Nat), HS h (KK q0 q1 q2 q3 q4 q5) [X] → k < 8 → Back (lp (b_L_stops_188 N Vp Vn Vm Vh k0 k1 k2 k3 k4 k5 ρ g) (M + 2) (n, m, h, q0, q1, q2, q3, q4, q5, nI W, nI (k + 1), 1, nI k)) X := by
    intro M n m h q0 q1 q2 q3 q4 q5 k hh hk
    obtain ⟨n', h', u1, u2, u3⟩ := eUn n m h q0 q1 q2 q3 q4 q5 (k + 1) k X [] (lp (b_L_stops_188 N Vp Vn Vm Vh k0 k1 k2 k3 k4 k5 ρ g) (M + 1)) hh (by omega) (by omega)
    show Back (b_L_stops_188 N Vp Vn Vm Vh k0 k1 k2 k3 k4 k5 ρ g (lp (b_L_stops_188 N Vp Vn Vm Vh k0 k1 k2 k3 k4 k5 ρ g) (M + 1)) _) X
    rw [u1]
    exact l0 M n' m h' q0 q1 q2 q3 q4 q5 (k + 1) u2 u3 (by omega)
  have l2 : ∀ (M : Nat) (n m : St) (h : Hb) (q0 q1 q2 q3 q4 q5 : St) (k : Nat) (Y : Xs), HS h (KK q0 q1 q2 q3 q4 q5) [Y, X] → k < 7 → Back (lp (b_L_stops_188 N Vp Vn Vm Vh k0 k1 k2 k3 k4 k5 ρ g) (M + 3) (n, m, h, q0, q1, q2, q3, q4, q5, nI W, nI (k + 2), 1, nI k)) X := by
    intro M n m h q0 q1 q2 q3 q4 q5 k Y hh hk
    obtain ⟨n', h', u1, u2, u3⟩ := eUn n m h q0 q1 q2 q3 q4 q5 (k + 2) k Y [X] (lp (b_L_stops_188 N Vp Vn Vm Vh k0 k1 k2 k3 k4 k5 ρ g) (M + 2)) hh (by omega) (by omega)
    show Back (b_L_stops_188 N Vp Vn Vm Vh k0 k1 k2 k3 k4 k5 ρ g (lp (b_L_stops_188 N Vp Vn Vm Vh k0 k1 k2 k3 k4 k5 ρ g) (M + 2)) _) X
    rw [u1]
    exact l1 M n' m h' q0 q1 q2 q3 q4 q5 (k + 1) u3 (by omega)
  obtain ⟨M, hMN⟩ : ∃ M, N = M + 3 := ⟨N - 3, by omega⟩
  have e148 : ∀ (n m : St) (h : Hb) (q0 q1 q2 q3 q4 q5 : St) (st : Nat) (Y : AS), Rel n Y → Y.2.2.2.2.1 = 2 → Y.2.2.2.2.2.2.1 = 0 → Y.2.2.2.2.2.2.2.2.2 = X.1.2.2.2.2.2.2.2.2.2 + nI W → Back (lp (b_L_stops_188 N Vp Vn Vm Vh k0 k1 k2 k3 k4 k5 ρ g) N (n, m, h, q0, q1, q2, q3, q4, q5, nI W, nI st, 1, nI 0)) X → Back (b_L_stops_148 N Vp Vn Vm Vh k0 k1 k2 k3 k4 k5 ρ g (n, m, h, q0, q1, q2, q3, q4, q5, nI W, X.1.2.2.2.2.2.2.2.2.2, nI st)) X := by
    intro n m h q0 q1 q2 q3 q4 q5 st Y hY y1 y2 y3 hb
    unfold b_L_stops_148 b_L_stops_183
    dsimp only
    rw [cnt_4, Option.bind_some, if_pos (show n.2.2.2.2.2.2.2.2.2.1 = (2 : Int32) by rw [hY.2.2.2.2.2.1, y1]; rfl), cnt_3, Option.bind_some, if_pos (show n.2.2.2.2.2.2.2.2.2.2.2.1 = 0 by rw [hY.2.2.2.2.2.2.2.1, y2]; rfl), cnt_9, Option.bind_some, if_pos (show n.2.2.2.2.2.2.2.2.2.2.2.2.2.2.2.2.1 = X.1.2.2.2.2.2.2.2.2.2 + nI W by rw [hY.2.2.2.2.2.2.2.2.2.2.1, y3])]
    exact hb
  have e124 : ∀ (n m : St) (h : Hb) (q0 q1 q2 q3 q4 q5 : St) (L : List Xs) (Y : Xs) (st : Nat), RelX n Y → HS h (KK q0 q1 q2 q3 q4 q5) L → L.length ≤ 1 → WA T Y.1 → Y.1.2.2.2.2.1 = 1 → Y.2.1 = X.2.1 → Y.1.2.2.2.2.2.1 = X.1.2.2.2.2.2.1 → Y.1.2.2.2.2.2.2.1 = X.1.2.2.2.2.2.2.1 → Y.1.2.2.2.2.2.2.2.2.2 = X.1.2.2.2.2.2.2.2.2.2 → stopB X.1 = Y.1 → st < 3 →
      (∀ (n' : St) (h' : Hb) (p0 p1 p2 p3 p4 p5 : St), HS h' (KK p0 p1 p2 p3 p4 p5) (Y :: L) → Back (lp (b_L_stops_188 N Vp Vn Vm Vh k0 k1 k2 k3 k4 k5 ρ g) N (n', m, h', p0, p1, p2, p3, p4, p5, nI W, nI (st + 1), 1, nI 0)) X) →
      Back (b_L_stops_124 N Vp Vn Vm Vh k0 k1 k2 k3 k4 k5 ρ g (n, m, h, q0, q1, q2, q3, q4, q5, nI W, nI X.1.2.2.2.2.2.2.1, X.1.2.2.2.2.2.2.2.2.2, nI st)) X := by
    intro n m h q0 q1 q2 q3 q4 q5 L Y st hY hh hL hYA y1 y2 y3 y4 y5 y6 hst' go
    obtain ⟨n', h', p0, p1, p2, p3, p4, p5, k', a1, a2, a3, a4⟩ := pass_ok (n := 1 + X.1.2.2.2.2.2.2.1) hN hh (by omega) hY hYA (by omega) hM ⟨by omega, by omega⟩ (by rw [y3]; omega)
    have hne : Y.1.2.2.2.2.1 ≠ 0 := by omega
    have z1 : (itA (1 + X.1.2.2.2.2.2.2.1) (decide ((v Y.1.2.2.2.1).1 = 1)) Y.1).2.2.2.2.1 = 2 := by
      rw [it_run _ hne]
      exact stop_in X.1.2.2.2.2.2.2.1 (1 + X.1.2.2.2.2.2.2.1) hYA hne (by omega) (by omega)
    have z2 : (itA (1 + X.1.2.2.2.2.2.2.1) (decide ((v Y.1.2.2.2.1).1 = 1)) Y.1).2.2.2.2.2.2.1 = 0 := (WA_it (b := decide ((v Y.1.2.2.2.1).1 = 1)) (1 + X.1.2.2.2.2.2.2.1) hYA).2.2.2.2.2.2.1 z1
    have z3 : (itA (1 + X.1.2.2.2.2.2.2.1) (decide ((v Y.1.2.2.2.1).1 = 1)) Y.1).2.2.2.2.2.2.2.2.2 = X.1.2.2.2.2.2.2.2.2.2 + nI W := by
      have key : svA (1 + X.1.2.2.2.2.2.2.1) Y.1 = W := by
        rw [hWe, eW, y6]
        have := sv_add (1 + X.1.2.2.2.2.2.2.1) (91 - (1 + X.1.2.2.2.2.2.2.1)) Y.1
        have z1' : (itA (1 + X.1.2.2.2.2.2.2.1) false Y.1).2.2.2.2.1 = 2 := stop_in X.1.2.2.2.2.2.2.1 (1 + X.1.2.2.2.2.2.2.1) hYA hne (by omega) (by omega)
        rw [show 1 + X.1.2.2.2.2.2.2.1 + (91 - (1 + X.1.2.2.2.2.2.2.1)) = 91 from by omega, (rest_n _ (WA_it (b := false) (1 + X.1.2.2.2.2.2.2.1) hYA) z1').2] at this
        omega
      rw [it_un _ hne, y5, key]
    have esum : (1 : Int32) + nI X.1.2.2.2.2.2.2.1 = nI (1 + X.1.2.2.2.2.2.2.1) := by rw [show (1 : Int32) = nI 1 from rfl, nI_add]
    unfold b_L_stops_124
    dsimp only
    rw [cnt_4, Option.bind_some, if_neg (show ¬ n.2.2.2.2.2.2.2.2.2.1 = (2 : Int32) by rw [hY.1.2.2.2.2.2.1, y1]; decide), eρ n (hY.2.1.trans y2), Option.bind_some, esum, a1, Option.bind_some]
    dsimp only
    rw [if_pos (nI_pos' (by rw [y3]; omega)), nI_1]
    exact e148 n' m h' p0 p1 p2 p3 p4 p5 (st + 1) _ a2.1 z1 z2 z3 (go n' h' p0 p1 p2 p3 p4 p5 a4)
  have r6 : Vn.2.2.2.2.2.2.2.2.2.1 = nI X.1.2.2.2.2.1 := hX.1.2.2.2.2.2.1
  have r8 : Vn.2.2.2.2.2.2.2.2.2.2.2.1 = nI X.1.2.2.2.2.2.2.1 := hX.1.2.2.2.2.2.2.2.1
  have r11 : Vn.2.2.2.2.2.2.2.2.2.2.2.2.2.2.2.2.1 = X.1.2.2.2.2.2.2.2.2.2 := hX.1.2.2.2.2.2.2.2.2.2.2.1
  unfold f_L_stops
  rw [e1, Option.bind_some, cnt_3, Option.bind_some, cnt_9, Option.bind_some, cnt_4, Option.bind_some]
  dsimp only
  rw [r8, r11]
  by_cases c : X.1.2.2.2.2.1 = 0
  · rw [if_pos (show Vn.2.2.2.2.2.2.2.2.2.1 = 0 by rw [r6, c]; rfl)]
    obtain ⟨n1, h1, q0, q1, q2, q3, q4, q5, s1, s2, s3, s4, s5, s6, s7⟩ := stop_ok hN H (by simp) hX hA c
    have ofs : ∀ j : Nat, j < 5 → f_X5_ofStop n1 0 (nI j) = some (n1.2.2.2.2.2.1 j) := by
      intro j hj
      unfold f_X5_ofStop
      rw [if_neg (by decide), if_neg (show ¬ n1.2.2.2.2.2.2.2.2.2.2.2.2.2.2.1 ≤ 0 by rw [s2.2.2]; exact nI_nle (by show 0 < X.2.2 + 1; omega) (by show X.2.2 + 1 < 2 ^ 31; omega)), if_pos (by decide), if_neg (nI_pos (by omega)), if_pos (show nI j < (5 : Int32) from nI_lt (b := 5) hj (by decide)), show ((0 : Int32) * (5 : Int32)) + nI j = nI j from by rw [show (0 : Int32) * 5 = 0 from by decide, Int32.zero_add], ix_nI (show j < 30 by omega) (by decide), cl j (by omega)]
    have o0 : f_X5_ofStop n1 0 0 = some (nI X.1.2.2.2.2.2.1) := by rw [← s4]; exact ofs 0 (by omega)
    have o1 : f_X5_ofStop n1 0 1 = some (nI X.1.2.2.2.2.2.2.1) := by rw [← s5]; exact ofs 1 (by omega)
    have o2 : f_X5_ofStop n1 0 2 = some (nI (tot X.1.2.2.1)) := by rw [← s6]; exact ofs 2 (by omega)
    have o4 : f_X5_ofStop n1 0 4 = some 1 := by rw [← s7]; exact ofs 4 (by omega)
    have hA1 := WA_stop hA
    unfold b_L_stops_32
    dsimp only
    rw [if_neg k10.mp, cnt_7, Option.bind_some, s1, Option.bind_some]
    dsimp only
    rw [if_pos rfl, cnt_7, Option.bind_some, if_pos (show n1.2.2.2.2.2.2.2.2.2.2.2.2.2.2.1 = Vn.2.2.2.2.2.2.2.2.2.2.2.2.2.2.1 + 1 by rw [s2.2.2, hX.2.2, nI_1]), o0, Option.bind_some, cnt_0, Option.bind_some, if_pos (show nI X.1.2.2.2.2.2.1 = n1.2.2.2.2.2.2.2.2.2.2.1 from s2.1.2.2.2.2.2.2.1.symm), o1, Option.bind_some, if_pos rfl, o2, Option.bind_some, cnt_2' hN s2.1 hA1, Option.bind_some, if_pos (show nI (tot X.1.2.2.1) = nI (tot (stopA X.1, X.2.1, X.2.2 + 1).1.2.2.1) from rfl), o4, Option.bind_some, if_pos rfl]
    refine e124 n1 m1 h1 q0 q1 q2 q3 q4 q5 [X] (stopA X.1, X.2.1, X.2.2 + 1) 1 s2 s3 (by simp) hA1 rfl rfl rfl rfl rfl (if_pos c) (by omega) (fun n' h' p0 p1 p2 p3 p4 p5 hh => ?_)
    have hl := l2 M n' m1 h' p0 p1 p2 p3 p4 p5 0 _ hh (by omega)
    rw [← hMN] at hl
    exact hl
  · rw [if_neg (show ¬ Vn.2.2.2.2.2.2.2.2.2.1 = 0 by rw [r6]; exact nI_ne0 (by omega) (by omega))]
    have hsB : stopB X.1 = X.1 := if_neg c
    unfold b_L_stops_32
    dsimp only
    rw [if_pos rfl]
    by_cases d : X.1.2.2.2.2.1 = 2
    · have hv0 := hA.2.2.2.2.2.2.1 d
      have hW0 : W = 0 := by rw [hWe, eW, hsB]; exact (rest_n 91 hA d).2
      unfold b_L_stops_124
      dsimp only
      rw [cnt_4, Option.bind_some, if_pos (show Vn.2.2.2.2.2.2.2.2.2.1 = (2 : Int32) by rw [r6, d]; rfl)]
      refine e148 Vn m1 Vh k0 k1 k2 k3 k4 k5 0 X.1 hX.1 d hv0 (by rw [hW0, show nI 0 = 0 from rfl, Int32.add_zero]) ?_
      have hl := l0 (M + 2) Vn m1 Vh k0 k1 k2 k3 k4 k5 0 hX H (by omega)
      rw [show M + 2 + 1 = N from by omega] at hl
      exact hl
    · refine e124 Vn m1 Vh k0 k1 k2 k3 k4 k5 [] X 0 hX H (by simp) hA (by omega) rfl rfl rfl rfl hsB (by omega) (fun n' h' p0 p1 p2 p3 p4 p5 hh => ?_)
      have hl := l1 (M + 1) n' m1 h' p0 p1 p2 p3 p4 p5 0 hh (by omega)
      rw [show M + 1 + 2 = N from by omega] at hl
      exact hl
