/-! PURE: the law's body -/
theorem WA_mono {T T' : Nat} {A : AS} (h : WA T A) (hT : T ≤ T') : WA T' A := by
  obtain ⟨a1, a2, a3, a4, a5, a6, a7, a8, a9, a10⟩ := h
  exact ⟨a1, a2, a3, a4, a5, a6, a7, a8, Nat.le_trans a9 hT, a10⟩
theorem WA_run {T : Nat} {A : AS} (h : WA T A) : WA T (runA A) := by
  obtain ⟨a1, a2, a3, a4, a5, a6, a7, a8⟩ := h
  exact ⟨a1, a2, a3, a4, (by show 0 ≤ 2; decide), a6, fun (z : (0 : Nat) = 2) => absurd z (by decide), a8⟩
theorem WA_sense {T s : Nat} {A : AS} (h : WA T A) (hs : s < 256) : WA T (A.1, A.2.1, A.2.2.1, s, A.2.2.2.2.1, A.2.2.2.2.2.1, A.2.2.2.2.2.2.1, A.2.2.2.2.2.2.2.1, A.2.2.2.2.2.2.2.2.1, A.2.2.2.2.2.2.2.2.2) := by
  obtain ⟨a1, a2, a3, a4, a5⟩ := h
  exact ⟨a1, a2, a3, hs, a5⟩
def InvP (ρ : Nat → Option Ru) (p : Pd) (n : St) (h : Hb) (k0 k1 k2 k3 k4 k5 : St) (e : Nat) : Prop :=
  p.2 = 0 ∧ HS h (KK k0 k1 k2 k3 k4 k5) [] ∧ ∃ (X : Xs) (R : Ru) (v : Nat → En) (nn : Nat) (lm : Int32), RelX n X ∧ WA (25 * e) X.1 ∧ X.2.2 ≤ 25 * e ∧ ρ X.2.1 = some R ∧ Mean R v nn lm
theorem come_0 {Vn : St} {Vh : Hb} {k0 k1 k2 k3 k4 k5 : St} : f_X5_come Vn Vh k0 k1 k2 k3 k4 k5 0 = some (-2, Vn, Vh, k0, k1, k2, k3, k4, k5) := by
  unfold f_X5_come b_X5_come_12
  rw [if_pos (by decide)]
theorem cell_ok {L : Nat} {xs : Fn} (hL : L ≤ 260) {k : Nat} (hk : k < 100) : ∃ c, f_L_cell L xs (nI k) = some c := by
  unfold f_L_cell b_L_cell_19
  by_cases c : Int32.ofNat L ≤ nI k
  · rw [if_pos c]; exact ⟨_, rfl⟩
  · rw [if_neg c]
    have : k < L := by
      rcases Nat.lt_or_ge k L with q | q
      · exact q
      · exact absurd (show Int32.ofNat L ≤ nI k from nI_le (a := L) q (by omega)) c
    rw [ix_nI this (by omega)]
    exact ⟨_, rfl⟩
section BODY
variable {N L : Nat} {xs : Fn} {ρ : Nat → Option Ru} {K : (Pd × Rd × St × St × Hb × St × St × St × St × St × St × Int32 × Int32) → Option Unit}
theorem t680 (hN : 5000 ≤ N) {e : Nat} (he : e < 7) (hK : ∀ p d n m h k0 k1 k2 k3 k4 k5, InvP ρ p n h k0 k1 k2 k3 k4 k5 (e + 1) → K (p, d, n, m, h, k0, k1, k2, k3, k4, k5, 1, nI (e + 1)) = some ())
    {p : Pd} {d : Rd} {n m : St} {h : Hb} {k0 k1 k2 k3 k4 k5 : St} (hI : InvP ρ p n h k0 k1 k2 k3 k4 k5 (e + 1)) : b_L_law_680 N ρ L xs K (p, d, n, m, h, k0, k1, k2, k3, k4, k5, nI e, 1) = some () := by
  have hI' := hI
  obtain ⟨i1, i2, X, R, v, nn, lm, x1, x2, x3, x4, x5⟩ := hI
  have hr : n.2.2.2.2.2.2.1 = X.2.1 := x1.2.1
  have hs := x2.2.2.2.1
  have r6 : n.2.2.2.2.2.2.2.2.2.1 = nI X.1.2.2.2.2.1 := x1.1.2.2.2.2.2.1
  have hmd := x2.2.2.2.2.1
  unfold b_L_law_680 b_L_law_753
  dsimp only
  rw [if_neg k10.mp, cnt_4, Option.bind_some]
  by_cases c : X.1.2.2.2.2.1 = 2
  · obtain ⟨n', h', q0, q1, q2, q3, q4, q5, a1, a2, a3⟩ := restart_ok hN i2 (by simp) x1 x2.2.1 hs x5 c
    rw [if_pos (show n.2.2.2.2.2.2.2.2.2.1 = (2 : Int32) by rw [r6, c]; rfl), show ρ n.2.2.2.2.2.2.1 = some R by rw [hr]; exact x4, Option.bind_some, rule_2 hN x5 hs x1.1.2.2.2.2.1, Option.bind_some, cnt_1, Option.bind_some, Option.bind_some, a1, Option.bind_some]
    have h01 := (x5.2.2.2.2 N hN X.1.2.2.2.1 hs).1
    have fin : ∀ a, a = n'.2.2.2.2.2.2.2.2.2.1 → ∀ b, n'.2.2.2.2.2.2.2.2.2.1 = b → b_L_law_744 N ρ L xs K (p, d, n', m, h', q0, q1, q2, q3, q4, q5, nI e, a, b) = some () := by
      intro a ha b hb
      unfold b_L_law_744 b_L_law_752 b_L_law_753
      dsimp only
      rw [if_pos (ha.trans hb), nI_1]
      refine hK _ _ _ _ _ _ _ _ _ _ _ ⟨i1, a3, ?_⟩
      rcases h01 with z | z
      · rw [if_pos z] at a2
        exact ⟨(runA X.1, X.2), R, v, nn, lm, a2, WA_run x2, x3, x4, x5⟩
      · rw [if_neg (by rw [z]; decide)] at a2
        exact ⟨X, R, v, nn, lm, a2, x2, x3, x4, x5⟩
    unfold b_L_law_725
    dsimp only
    rcases h01 with z | z
    · rw [if_pos z] at a2
      have em : n'.2.2.2.2.2.2.2.2.2.1 = nI 0 := a2.1.2.2.2.2.2.1
      rw [if_neg (by rw [z]; decide), if_pos z, if_pos (show nI X.1.2.2.1.length = n.2.2.2.2.2.2.2.1 from x1.1.2.2.1.symm), cnt_4, Option.bind_some, if_neg (by rw [z]; decide)]
      exact fin _ rfl _ em
    · rw [if_neg (by rw [z]; decide)] at a2
      have em : n'.2.2.2.2.2.2.2.2.2.1 = nI X.1.2.2.2.2.1 := a2.1.2.2.2.2.2.1
      rw [c] at em
      rw [if_pos z, if_pos (show (if (v X.1.2.2.2.1).1 = 0 then nI X.1.2.2.1.length else (-5 : Int32)) = -5 from if_neg (by rw [z]; decide)), cnt_4, Option.bind_some, if_pos z]
      exact fin _ rfl _ em
  · rw [if_neg (show ¬ n.2.2.2.2.2.2.2.2.2.1 = (2 : Int32) by rw [r6]; exact fun z => c ((nI_eq (b := 2) (by omega) (by decide)).mp z)), nI_1]
    exact hK _ _ _ _ _ _ _ _ _ _ _ hI'
theorem t624 (hN : 5000 ≤ N) {e : Nat} (he : e < 7) (hK : ∀ p d n m h k0 k1 k2 k3 k4 k5, InvP ρ p n h k0 k1 k2 k3 k4 k5 (e + 1) → K (p, d, n, m, h, k0, k1, k2, k3, k4, k5, 1, nI (e + 1)) = some ())
    {p : Pd} {d : Rd} {n m : St} {h : Hb} {k0 k1 k2 k3 k4 k5 : St} (hI : InvP ρ p n h k0 k1 k2 k3 k4 k5 (e + 1)) : b_L_law_624 N ρ L xs K (p, d, n, m, h, k0, k1, k2, k3, k4, k5, nI e, 1) = some () := by
  have hI' := hI
  obtain ⟨i1, i2, X, R, v, nn, lm, x1, x2, x3, x4, x5⟩ := hI
  have r6 : n.2.2.2.2.2.2.2.2.2.1 = nI X.1.2.2.2.2.1 := x1.1.2.2.2.2.2.1
  have r8 : n.2.2.2.2.2.2.2.2.2.2.2.1 = nI X.1.2.2.2.2.2.2.1 := x1.1.2.2.2.2.2.2.2.1
  obtain ⟨g, hg, r12⟩ := x1.1.2.2.2.2.2.2.2.2.2.2.2
  have hv := x2.2.2.2.2.2.1
  have hmd := x2.2.2.2.2.1
  have e665 : b_L_law_665 N ρ L xs K (p, d, n, m, h, k0, k1, k2, k3, k4, k5, nI e) = some () := by
    unfold b_L_law_665
    dsimp only
    rw [come_0, Option.bind_some]
    dsimp only
    rw [if_pos rfl]
    exact t680 hN he hK hI'
  unfold b_L_law_624
  dsimp only
  rw [if_neg k10.mp, cnt_10, Option.bind_some, if_neg (show ¬ (90 : Int32) < n.2.2.2.2.2.2.2.2.2.2.2.2.2.2.2.2.2 by rw [r12]; exact nI_nlt (a := 90) (by omega) (by decide)), cnt_3, Option.bind_some, if_neg (show ¬ n.2.2.2.2.2.2.2.2.2.2.2.1 < 0 by rw [r8]; exact nI_pos (by omega)), cnt_4, Option.bind_some, Option.bind_some]
  by_cases c : X.1.2.2.2.2.1 = 2
  · rw [if_pos (show n.2.2.2.2.2.2.2.2.2.1 = (2 : Int32) by rw [r6, c]; rfl), if_pos (show n.2.2.2.2.2.2.2.2.2.2.2.1 = 0 by rw [r8, x2.2.2.2.2.2.2.1 c]; rfl)]
    exact e665
  · rw [if_neg (show ¬ n.2.2.2.2.2.2.2.2.2.1 = (2 : Int32) by rw [r6]; exact fun z => c ((nI_eq (b := 2) (by omega) (by decide)).mp z))]
    exact e665
theorem t548 (hN : 5000 ≤ N) {e : Nat} (he : e < 7) (hK : ∀ p d n m h k0 k1 k2 k3 k4 k5, InvP ρ p n h k0 k1 k2 k3 k4 k5 (e + 1) → K (p, d, n, m, h, k0, k1, k2, k3, k4, k5, 1, nI (e + 1)) = some ())
    {p : Pd} {d : Rd} {n m : St} {h : Hb} {k0 k1 k2 k3 k4 k5 : St} {f : Int32} (hI : InvP ρ p n h k0 k1 k2 k3 k4 k5 e) : b_L_law_548 N ρ L xs K (p, d, n, m, h, k0, k1, k2, k3, k4, k5, 1, nI e, f) = some () := by
  obtain ⟨i1, i2, X, R, v, nn, lm, x1, x2, x3, x4, x5⟩ := hI
  have htk := x2.2.2.2.2.2.2.2.2.1
  have r7 : n.2.2.2.2.2.2.2.2.2.2.1 = nI X.1.2.2.2.2.2.1 := x1.1.2.2.2.2.2.2.1
  have hlow := lowN_lt (f >>> ((21 : Int32) &&& 31)) (n := 25) (by omega)
  have elow : f_L_low (f >>> ((21 : Int32) &&& 31)) (25 : Int32) = some (nI (lowN (f >>> ((21 : Int32) &&& 31)) 25)) := low_ok _ (n := 25) (by omega) (by decide)
  obtain ⟨j, hj⟩ : ∃ j, j = 1 + lowN (f >>> ((21 : Int32) &&& 31)) 25 := ⟨_, rfl⟩
  have esum : (1 : Int32) + nI (lowN (f >>> ((21 : Int32) &&& 31)) 25) = nI j := by rw [hj, show (1 : Int32) = nI 1 from rfl, nI_add]
  obtain ⟨n1, m1, h1, q0, q1, q2, q3, q4, q5, a1, a2, a3⟩ := stops_ok (Vp := p) (Vm := m) (g := f >>> ((5 : Int32) &&& 31)) hN x1 i2 x2 (by omega) (by omega) (by omega) x4 x5
  obtain ⟨n2, m2, h2, p0, p1, p2, p3, p4, p5, b1, b2, b3⟩ := empties_ok (Vp := p) (Vm := m1) hN a2 a3 x2 (by omega) (by omega) x4 x5
  obtain ⟨n3, h3, s0, s1, s2, s3, s4, s5, k', c1, c2, c3, c4⟩ := pass_ok (n := j) hN b3 (by simp) b2 x2 (by omega) x5 ⟨by omega, by omega⟩ (by omega)
  have hA3 := WA_it (b := decide ((v X.1.2.2.2.1).1 = 1)) j x2
  unfold b_L_law_548
  dsimp only
  rw [cnt_0, Option.bind_some, elow, Option.bind_some, esum, if_neg k10.mp, people_ok hN x1.1 x2 (by omega), Option.bind_some, if_neg k10.mp, a1, Option.bind_some]
  dsimp only
  rw [if_neg k10.mp, b1, Option.bind_some]
  dsimp only
  rw [if_neg k10.mp, show ρ n2.2.2.2.2.2.2.1 = some R by rw [b2.2.1]; exact x4, Option.bind_some, c1, Option.bind_some]
  dsimp only
  rw [if_pos (show nI (X.1.2.2.2.2.2.1 + j) = n.2.2.2.2.2.2.2.2.2.2.1 + nI j by rw [r7, nI_add]), people_ok hN c2.1 hA3 (by omega), Option.bind_some, if_neg k10.mp]
  exact t624 hN he hK ⟨i1, HS_weak c4, (itA j (decide ((v X.1.2.2.2.1).1 = 1)) X.1, X.2.1, k'), R, v, nn, lm, c2, WA_mono hA3 (by omega), (by show k' ≤ 25 * (e + 1); omega), x4, x5⟩
theorem t449 (hN : 5000 ≤ N) {e : Nat} (he : e < 7) (hK : ∀ p d n m h k0 k1 k2 k3 k4 k5, InvP ρ p n h k0 k1 k2 k3 k4 k5 (e + 1) → K (p, d, n, m, h, k0, k1, k2, k3, k4, k5, 1, nI (e + 1)) = some ())
    {p : Pd} {d : Rd} {n m : St} {h : Hb} {k0 k1 k2 k3 k4 k5 : St} {f : Int32} (hI : InvP ρ p n h k0 k1 k2 k3 k4 k5 e) : b_L_law_449 N ρ L xs K (p, d, n, m, h, k0, k1, k2, k3, k4, k5, 1, nI e, f) = some () := by
  unfold b_L_law_449
  dsimp only
  obtain ⟨o, e1, -⟩ := lp_m (body := b_L_law_452 N ρ L xs K) (P := fun k s => ∃ (i : Nat) (n : St) (h : Hb) (k0 k1 k2 k3 k4 k5 : St), k + i = 3 ∧ s = (p, d, n, m, h, k0, k1, k2, k3, k4, k5, 1, nI e, f, nI i) ∧ InvP ρ p n h k0 k1 k2 k3 k4 k5 e) (Q := fun _ => True) (by
    rintro k s ⟨i, n, h, k0, k1, k2, k3, k4, k5, hk, rfl, hJ⟩
    have fin : b_L_law_548 N ρ L xs K (p, d, n, m, h, k0, k1, k2, k3, k4, k5, 1, nI e, f) = some () := t548 hN he hK hJ
    have hJ' := hJ
    obtain ⟨i1, i2, X, R, v, nn, lm, x1, x2, x3, x4, x5⟩ := hJ
    have r6 : n.2.2.2.2.2.2.2.2.2.1 = nI X.1.2.2.2.2.1 := x1.1.2.2.2.2.2.1
    have r3 : n.2.2.2.2.2.2.2.1 = nI X.1.2.2.1.length := x1.1.2.2.1
    have hl := x2.2.1
    have hmd := x2.2.2.2.2.1
    by_cases c0 : k = 0
    · refine .inl ⟨(), fun K2 => ?_, trivial⟩
      unfold b_L_law_452
      refine (if_pos (show (3 : Int32) ≤ nI i from nI_le (a := 3) (by omega) (by omega))).trans ?_
      exact fin
    · have ei : ¬ (3 : Int32) ≤ nI i := nI_ge (b := 3) (by omega) (by decide)
      by_cases c1 : X.1.2.2.2.2.1 = 0
      · by_cases c2 : X.1.2.2.1.length < 20
        · have hlow := lowN_lt (f >>> (((12 : Int32) + ((3 : Int32) * nI i)) &&& 31)) (n := 200) (by omega)
          have elow : f_L_low (f >>> (((12 : Int32) + ((3 : Int32) * nI i)) &&& 31)) (200 : Int32) = some (nI (lowN (f >>> (((12 : Int32) + ((3 : Int32) * nI i)) &&& 31)) 200)) := low_ok _ (n := 200) (by omega) (by decide)
          obtain ⟨w, hw⟩ : ∃ w, w = 1 + lowN (f >>> (((12 : Int32) + ((3 : Int32) * nI i)) &&& 31)) 200 := ⟨_, rfl⟩
          have esum : (1 : Int32) + nI (lowN (f >>> (((12 : Int32) + ((3 : Int32) * nI i)) &&& 31)) 200) = nI w := by rw [hw, show (1 : Int32) = nI 1 from rfl, nI_add]
          obtain ⟨n1, h1, q0, q1, q2, q3, q4, q5, a1, a2, a3⟩ := come_ok (w := w) i2 (by simp) x1 c2 ⟨by omega, by omega⟩ c1
          have hA2 := WA_come x2 c2 (w := w) ⟨by omega, by omega⟩
          have hget : (comeA X.1 w).2.2.1[X.1.2.2.1.length]? = some (0, w, X.1.2.2.2.2.2.1) := by
            show (X.1.2.2.1 ++ [(0, w, X.1.2.2.2.2.2.1)])[X.1.2.2.1.length]? = _
            rw [List.getElem?_append_right (Nat.le_refl _), Nat.sub_self]; rfl
          obtain ⟨o1, o2, o3⟩ := of_ok a2.1 hA2 hget
          have o3' : f_X5_of n1 (nI X.1.2.2.1.length) 2 = some 0 := by
            rw [o3]
            show some (nI (X.1.2.2.2.2.2.1 - X.1.2.2.2.2.2.1)) = _
            rw [Nat.sub_self]; rfl
          refine .inr ⟨k - 1, (p, d, n1, m, h1, q0, q1, q2, q3, q4, q5, 1, nI e, f, nI (i + 1)), by omega, ⟨i + 1, n1, h1, q0, q1, q2, q3, q4, q5, by omega, rfl, i1, HS_weak a3, _, R, v, nn, lm, a2, hA2, x3, x4, x5⟩, fun K2 => ?_⟩
          unfold b_L_law_452 b_L_law_541
          refine (if_neg ei).trans ?_
          dsimp only
          rw [if_neg k10.mp, cnt_4, Option.bind_some, if_pos (show n.2.2.2.2.2.2.2.2.2.1 = 0 by rw [r6, c1]; rfl), cnt_1, Option.bind_some, if_neg (show ¬ (20 : Int32) ≤ n.2.2.2.2.2.2.2.1 by rw [r3]; exact nI_ge (b := 20) c2 (by decide)), Option.bind_some, elow, Option.bind_some, esum, a1, Option.bind_some]
          dsimp only
          rw [if_pos (show nI (X.1.2.2.1.length + 1) = n.2.2.2.2.2.2.2.1 + 1 by rw [r3, nI_1]), show f_X5_of n1 n.2.2.2.2.2.2.2.1 0 = some 0 by rw [r3]; exact o1, Option.bind_some, if_pos rfl, show f_X5_of n1 n.2.2.2.2.2.2.2.1 2 = some 0 by rw [r3]; exact o3', Option.bind_some, if_pos rfl, nI_1]
        · refine .inl ⟨(), fun K2 => ?_, trivial⟩
          unfold b_L_law_452
          refine (if_neg ei).trans ?_
          dsimp only
          rw [if_neg k10.mp, cnt_4, Option.bind_some, if_pos (show n.2.2.2.2.2.2.2.2.2.1 = 0 by rw [r6, c1]; rfl), cnt_1, Option.bind_some, if_pos (show (20 : Int32) ≤ n.2.2.2.2.2.2.2.1 by rw [r3]; exact nI_le (a := 20) (by omega) (by omega))]
          exact fin
      · refine .inl ⟨(), fun K2 => ?_, trivial⟩
        unfold b_L_law_452
        refine (if_neg ei).trans ?_
        dsimp only
        rw [if_neg k10.mp, cnt_4, Option.bind_some, if_neg (show ¬ n.2.2.2.2.2.2.2.2.2.1 = 0 by rw [r6]; exact nI_ne0 (by omega) (by omega))]
        exact fin) N 3 (p, d, n, m, h, k0, k1, k2, k3, k4, k5, 1, nI e, f, (0 : Int32)) (by omega) ⟨0, n, h, k0, k1, k2, k3, k4, k5, rfl, rfl, hI⟩
  exact e1
theorem t355 (hN : 5000 ≤ N) {e : Nat} (he : e < 7) (hK : ∀ p d n m h k0 k1 k2 k3 k4 k5, InvP ρ p n h k0 k1 k2 k3 k4 k5 (e + 1) → K (p, d, n, m, h, k0, k1, k2, k3, k4, k5, 1, nI (e + 1)) = some ())
    {p : Pd} {d : Rd} {n m : St} {h : Hb} {k0 k1 k2 k3 k4 k5 : St} {f : Int32} (hI : InvP ρ p n h k0 k1 k2 k3 k4 k5 e) : b_L_law_355 N ρ L xs K (p, d, n, m, h, k0, k1, k2, k3, k4, k5, 1, nI e, f) = some () := by
  unfold b_L_law_355
  dsimp only
  obtain ⟨o, e1, -⟩ := lp_m (body := b_L_law_358 N ρ L xs K) (P := fun k s => ∃ (i : Nat) (n : St) (h : Hb) (k0 k1 k2 k3 k4 k5 : St), k + i = 3 ∧ s = (p, d, n, m, h, k0, k1, k2, k3, k4, k5, 1, nI e, f, nI i) ∧ InvP ρ p n h k0 k1 k2 k3 k4 k5 e) (Q := fun _ => True) (by
    rintro k s ⟨i, n, h, k0, k1, k2, k3, k4, k5, hk, rfl, hJ⟩
    have fin : b_L_law_449 N ρ L xs K (p, d, n, m, h, k0, k1, k2, k3, k4, k5, 1, nI e, f) = some () := t449 hN he hK hJ
    obtain ⟨i1, i2, X, R, v, nn, lm, x1, x2, x3, x4, x5⟩ := hJ
    by_cases c0 : k = 0
    · refine .inl ⟨(), fun K2 => ?_, trivial⟩
      unfold b_L_law_358
      refine (if_pos (show (3 : Int32) ≤ nI i from nI_le (a := 3) (by omega) (by omega))).trans ?_
      exact fin
    · have ei : ¬ (3 : Int32) ≤ nI i := nI_ge (b := 3) (by omega) (by decide)
      have elow : ∀ (x : Int32), f_L_low x (4 : Int32) = some (nI (lowN x 4)) := fun x => low_ok x (n := 4) (by omega) (by decide)
      have elow2 : ∀ (x : Int32), f_L_low x (2 : Int32) = some (nI (lowN x 2)) := fun x => low_ok x (n := 2) (by omega) (by decide)
      have h4 := lowN_lt (f >>> (((4 : Int32) * nI i) &&& 31)) (n := 4) (by omega)
      have h2 := lowN_lt (f >>> (((2 : Int32) + ((4 : Int32) * nI i)) &&& 31)) (n := 2) (by omega)
      have h3 := lowN_lt (f >>> (((3 : Int32) + ((4 : Int32) * nI i)) &&& 31)) (n := 2) (by omega)
      obtain ⟨a, n1, h1, q0, q1, q2, q3, q4, q5, a1, a2, a3, a4, a5, a6⟩ := sense_ok i2 (by simp) x1 x2.2.1 h4 h2 h3 x2.2.2.2.1
      refine .inr ⟨k - 1, (p, d, n1, m, h1, q0, q1, q2, q3, q4, q5, 1, nI e, f, nI (i + 1)), by omega, ⟨i + 1, n1, h1, q0, q1, q2, q3, q4, q5, by omega, rfl, i1, HS_weak a5, _, R, v, nn, lm, a3, WA_sense x2 a4, x3, x4, x5⟩, fun K2 => ?_⟩
      unfold b_L_law_358 b_L_law_442
      refine (if_neg ei).trans ?_
      dsimp only
      rw [if_neg k10.mp, elow, Option.bind_some, elow2, Option.bind_some, elow2, Option.bind_some, a1, Option.bind_some]
      dsimp only
      rw [if_neg a2, a6, Option.bind_some, if_pos rfl, nI_1]) N 3 (p, d, n, m, h, k0, k1, k2, k3, k4, k5, 1, nI e, f, (0 : Int32)) (by omega) ⟨0, n, h, k0, k1, k2, k3, k4, k5, rfl, rfl, hI⟩
  exact e1
end BODY
