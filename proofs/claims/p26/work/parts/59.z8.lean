/-! PURE: from behind the constructor to the loop -/
theorem set1 {Vh : Hb} {k0 k1 k2 k3 k4 k5 Vn : St} {X : Xs} (j x : Nat) (H : HS Vh (KK k0 k1 k2 k3 k4 k5) []) (hX : RelX Vn X) (hp : X.1.2.2.1.length ≤ 20) (hj : j < 7) (h1 : ¬ nI x < lstL.getD j 0) (h2 : nI x ≤ lstG.getD j 0) :
    ∃ n' h' q0 q1 q2 q3 q4 q5, f_X5_set Vn Vh k0 k1 k2 k3 k4 k5 (nI j) (nI x) = some (nI (X.1.1 j), n', h', q0, q1, q2, q3, q4, q5) ∧ RelX n' ((updN X.1.1 j x, X.1.2.1, X.1.2.2.1, X.1.2.2.2.1, X.1.2.2.2.2.1, X.1.2.2.2.2.2.1, X.1.2.2.2.2.2.2.1, X.1.2.2.2.2.2.2.2.1, X.1.2.2.2.2.2.2.2.2.1, X.1.2.2.2.2.2.2.2.2.2), X.2) ∧ HS h' (KK q0 q1 q2 q3 q4 q5) [] := by
  obtain ⟨n', h', q0, q1, q2, q3, q4, q5, a1, a2, a3⟩ := set_ok H (by simp) hX hp hj h1 h2
  exact ⟨n', h', q0, q1, q2, q3, q4, q5, a1, a2, HS_weak a3⟩
theorem t8 {N L : Nat} {xs : Fn} {ρ : Nat → Option Ru} {K : (Pd × Rd × St × St × Hb × St × St × St × St × St × St × Int32 × Int32) → Option Unit} (hN : 5000 ≤ N) (hL : L ≤ 260) {p : Pd} {d : Rd} {n m : St} {h : Hb} {k0 k1 k2 k3 k4 k5 : St} {r : Nat} {R : Ru}
    (hp : p.2 = 0) (hH : HS h (KK k0 k1 k2 k3 k4 k5) []) (hX : RelX n (A0, r, 0)) (hρ : ρ r = some R) (hM : Mean R v0 7 240)
    (hK : ∀ p d n m h k0 k1 k2 k3 k4 k5, InvP ρ p n h k0 k1 k2 k3 k4 k5 0 → K (p, d, n, m, h, k0, k1, k2, k3, k4, k5, 1, nI 0) = some ()) :
    b_L_law_8 N ρ L xs K (p, d, n, m, h, k0, k1, k2, k3, k4, k5) = some () := by
  have er : ρ n.2.2.2.2.2.2.1 = some R := by rw [hX.2.1]; exact hρ
  have es : n.2.2.2.2.2.2.2.2.1 = nI 0 := hX.1.2.2.2.2.1
  have a0 := rule_0 (N := N) hM n
  have a1 : f_X5_rule N n R 1 = some 4 := by rw [rule_1 hN hM n (s := 0) (by omega), v0_0]
  have a2 : f_X5_rule N n R 2 = some 0 := by rw [rule_2 hN hM (s := 0) (by omega) es, v0_0]
  have a3 := rule_3 (N := N) hM n
  have a4 : f_X5_rule N n R 4 = some 7 := by rw [rule_4 hN hM (s := 0) (by omega) es, v0_0]; rfl
  have a5 : f_X5_fewest N n R = some 3 := by rw [fewest_ok hN hM, v0_best]; rfl
  obtain ⟨m', a6⟩ := way_ok (Vm := m) hN hX.1 WA_0 (by omega)
  have a6' : f_X5_way N n m = some (0, m') := by
    rw [a6, show wayR A0 (A0.1 2) = 0 from sv_0 91 (WA_stopB (WA_ramp WA_0 ⟨by decide, by decide⟩)) (stopB_md _) ((stopB_un _).2)]; rfl
  obtain ⟨c, hc⟩ := cell_ok (xs := xs) hL (k := 0) (by omega)
  obtain ⟨c1, hc1⟩ := cell_ok (xs := xs) hL (k := 1) (by omega)
  obtain ⟨c2, hc2⟩ := cell_ok (xs := xs) hL (k := 2) (by omega)
  have hc' : f_L_cell L xs (0 : Int32) = some c := hc
  have hc1' : f_L_cell L xs (1 : Int32) = some c1 := hc1
  have hc2' : f_L_cell L xs (2 : Int32) = some c2 := hc2
  have w0 := lowN_lt c (n := 61) (by omega)
  have w1 := lowN_lt (c >>> ((6 : Int32) &&& 31)) (n := 40) (by omega)
  have w2 := lowN_lt (c >>> ((12 : Int32) &&& 31)) (n := 30) (by omega)
  have w3 := lowN_lt (c >>> ((17 : Int32) &&& 31)) (n := 20) (by omega)
  have w4 := lowN_lt (c >>> ((22 : Int32) &&& 31)) (n := 9) (by omega)
  have w5 := lowN_lt c1 (n := 300) (by omega)
  have w6 := lowN_lt c2 (n := 1500) (by omega)
  have l0 : f_L_low c (61 : Int32) = some (nI (lowN c 61)) := low_ok _ (n := 61) (by omega) (by decide)
  have l1 : f_L_low (c >>> ((6 : Int32) &&& 31)) (40 : Int32) = some (nI (lowN (c >>> ((6 : Int32) &&& 31)) 40)) := low_ok _ (n := 40) (by omega) (by decide)
  have l2 : f_L_low (c >>> ((12 : Int32) &&& 31)) (30 : Int32) = some (nI (lowN (c >>> ((12 : Int32) &&& 31)) 30)) := low_ok _ (n := 30) (by omega) (by decide)
  have l3 : f_L_low (c >>> ((17 : Int32) &&& 31)) (20 : Int32) = some (nI (lowN (c >>> ((17 : Int32) &&& 31)) 20)) := low_ok _ (n := 20) (by omega) (by decide)
  have l4 : f_L_low (c >>> ((22 : Int32) &&& 31)) (9 : Int32) = some (nI (lowN (c >>> ((22 : Int32) &&& 31)) 9)) := low_ok _ (n := 9) (by omega) (by decide)
  have l5 : f_L_low c1 (300 : Int32) = some (nI (lowN c1 300)) := low_ok _ (n := 300) (by omega) (by decide)
  have l6 : f_L_low c2 (1500 : Int32) = some (nI (lowN c2 1500)) := low_ok _ (n := 1500) (by omega) (by decide)
  generalize lowN c 61 = y0 at *
  generalize lowN (c >>> ((6 : Int32) &&& 31)) 40 = y1 at *
  generalize lowN (c >>> ((12 : Int32) &&& 31)) 30 = y2 at *
  generalize lowN (c >>> ((17 : Int32) &&& 31)) 20 = y3 at *
  generalize lowN (c >>> ((22 : Int32) &&& 31)) 9 = y4 at *
  generalize lowN c1 300 = y5 at *
  generalize lowN c2 1500 = y6 at *
  have u : ∀ y, (1 : Int32) + nI y = nI (1 + y) := fun y => by rw [show (1 : Int32) = nI 1 from rfl, nI_add]
  have u30 : (30 : Int32) + nI y0 = nI (30 + y0) := by rw [show (30 : Int32) = nI 30 from rfl, nI_add]
  obtain ⟨n0, h0, q00, q01, q02, q03, q04, q05, s0, x0, H0⟩ := set1 0 (30 + y0) hH hX (by show 0 ≤ 20; decide) (by omega) (show ¬ nI (30 + y0) < nI 10 from nI_nlt (by omega) (by omega)) (show nI (30 + y0) ≤ nI 90 from nI_le (by omega) (by omega))
  obtain ⟨n1, h1, q10, q11, q12, q13, q14, q15, s1, x1, H1⟩ := set1 1 (1 + y1) H0 x0 (by show 0 ≤ 20; decide) (by omega) (show ¬ nI (1 + y1) < nI 1 from nI_nlt (by omega) (by omega)) (show nI (1 + y1) ≤ nI 40 from nI_le (by omega) (by omega))
  obtain ⟨n2, h2, q20, q21, q22, q23, q24, q25, s2, x2, H2⟩ := set1 2 (1 + y2) H1 x1 (by show 0 ≤ 20; decide) (by omega) (show ¬ nI (1 + y2) < nI 1 from nI_nlt (by omega) (by omega)) (show nI (1 + y2) ≤ nI 30 from nI_le (by omega) (by omega))
  obtain ⟨n3, h3, q30, q31, q32, q33, q34, q35, s3, x3, H3⟩ := set1 3 (1 + y3) H2 x2 (by show 0 ≤ 20; decide) (by omega) (show ¬ nI (1 + y3) < nI 1 from nI_nlt (by omega) (by omega)) (show nI (1 + y3) ≤ nI 99 from nI_le (by omega) (by omega))
  obtain ⟨n4, h4, q40, q41, q42, q43, q44, q45, s4, x4, H4⟩ := set1 4 (1 + y4) H3 x3 (by show 0 ≤ 20; decide) (by omega) (show ¬ nI (1 + y4) < nI 1 from nI_nlt (by omega) (by omega)) (show nI (1 + y4) ≤ nI 99 from nI_le (by omega) (by omega))
  obtain ⟨n5, h5, q50, q51, q52, q53, q54, q55, s5, x5, H5⟩ := set1 5 (1 + y5) H4 x4 (by show 0 ≤ 20; decide) (by omega) (show ¬ nI (1 + y5) < nI 1 from nI_nlt (by omega) (by omega)) (show nI (1 + y5) ≤ nI 999 from nI_le (by omega) (by omega))
  obtain ⟨n6, h6, q60, q61, q62, q63, q64, q65, s6, x6, H6⟩ := set1 6 (1 + y6) H5 x5 (by show 0 ≤ 20; decide) (by omega) (show ¬ nI (1 + y6) < nI 1 from nI_nlt (by omega) (by omega)) (show nI (1 + y6) ≤ nI 9999 from nI_le (by omega) (by omega))
  have s0' : f_X5_set n h k0 k1 k2 k3 k4 k5 (0 : Int32) (nI (30 + y0)) = some (50, n0, h0, q00, q01, q02, q03, q04, q05) := s0
  have s1' : f_X5_set n0 h0 q00 q01 q02 q03 q04 q05 (1 : Int32) (nI (1 + y1)) = some (10, n1, h1, q10, q11, q12, q13, q14, q15) := s1
  have s2' : f_X5_set n1 h1 q10 q11 q12 q13 q14 q15 (2 : Int32) (nI (1 + y2)) = some (6, n2, h2, q20, q21, q22, q23, q24, q25) := s2
  have s3' : f_X5_set n2 h2 q20 q21 q22 q23 q24 q25 (3 : Int32) (nI (1 + y3)) = some (20, n3, h3, q30, q31, q32, q33, q34, q35) := s3
  have s4' : f_X5_set n3 h3 q30 q31 q32 q33 q34 q35 (4 : Int32) (nI (1 + y4)) = some (5, n4, h4, q40, q41, q42, q43, q44, q45) := s4
  have s5' : f_X5_set n4 h4 q40 q41 q42 q43 q44 q45 (5 : Int32) (nI (1 + y5)) = some (100, n5, h5, q50, q51, q52, q53, q54, q55) := s5
  have s6' : f_X5_set n5 h5 q50 q51 q52 q53 q54 q55 (6 : Int32) (nI (1 + y6)) = some (800, n6, h6, q60, q61, q62, q63, q64, q65) := s6
  unfold b_L_law_8
  dsimp only
  rw [er, Option.bind_some, a0, Option.bind_some, if_pos (show nI 7 = (7 : Int32) from rfl), Option.bind_some, a1, Option.bind_some, if_pos rfl, Option.bind_some, a2, Option.bind_some, if_pos rfl, Option.bind_some, a3, Option.bind_some, if_pos rfl, Option.bind_some, a4, Option.bind_some, if_pos rfl, Option.bind_some, a5, Option.bind_some, if_pos rfl, a6', Option.bind_some]
  dsimp only
  rw [if_pos rfl, hc', Option.bind_some, l0, Option.bind_some, u30, s0', Option.bind_some]
  dsimp only
  rw [if_pos rfl, l1, Option.bind_some, u, s1', Option.bind_some]
  dsimp only
  rw [if_pos rfl, l2, Option.bind_some, u, s2', Option.bind_some]
  dsimp only
  rw [if_pos rfl, l3, Option.bind_some, u, s3', Option.bind_some]
  dsimp only
  rw [if_pos rfl]
  unfold b_L_law_166 b_L_law_244
  dsimp only
  rw [if_neg k10.mp, l4, Option.bind_some, u, s4', Option.bind_some]
  dsimp only
  rw [if_pos rfl, hc1', Option.bind_some, l5, Option.bind_some, u, s5', Option.bind_some]
  dsimp only
  rw [if_pos rfl, hc2', Option.bind_some, l6, Option.bind_some, u, s6', Option.bind_some]
  dsimp only
  rw [if_pos rfl]
  obtain ⟨-, wa⟩ := WA_0
  exact hK _ _ _ _ _ _ _ _ _ _ _ ⟨hp, H6, _, R, v0, 7, 240, x6, ⟨⟨(by show 30 + y0 ≤ 90; omega), (by show 1 + y1 ≤ 90; omega), (by show 1 ≤ 1 + y2; omega), (by show 1 + y2 ≤ 30; omega), (by show 1 + y3 ≤ 99; omega), (by show 1 + y4 ≤ 99; omega), (by show 1 ≤ 1 + y5; omega), (by show 1 + y5 ≤ 999; omega), (by show 1 + y6 ≤ 9999; omega)⟩, wa⟩, Nat.zero_le _, hρ, hM⟩
noncomputable def kI (P : Prop) : Option Unit := @ite (Option Unit) P (Classical.propDecidable P) (some ()) none
theorem kI_pos {P : Prop} (h : P) : kI P = some () := if_pos h
theorem kI_inv {P : Prop} (h : kI P = some ()) : P := by
  unfold kI at h
  by_cases c : P
  · exact c
  · rw [if_neg c] at h; cases h
