/-! PURE: the loop's head, the load, behind the load -/
def LInv (p : Pd) (n : St) (h : Hb) (k0 k1 k2 k3 k4 k5 : St) (e : Nat) (g parts : Int32) (R : Ru) : Prop :=
  p.2 = 0 ∧ HS h (KK k0 k1 k2 k3 k4 k5) [] ∧ MeanG R g ∧ parts = R.2.2.2.2.1 ∧ ∃ X : Xs, RelX n X ∧ WA (25 * e) X.1 ∧ X.2.2 ≤ 25 * e
theorem setr_ok {V : St} {X : Xs} (h : RelX V X) (r : Nat) : RelX (setr V r) (X.1, r, X.2.2) := ⟨h.1, rfl, h.2.2⟩
section BODY2
variable {N L : Nat} {xs : Fn} {ρ : Nat → Option Ru} {K : (Pd × Rd × St × St × Hb × St × St × St × St × St × St × Int32 × Int32) → Option Unit}
theorem t315 (hN : 5000 ≤ N) {e : Nat} (he : e < 7) (hK : ∀ p d n m h k0 k1 k2 k3 k4 k5, InvP ρ p n h k0 k1 k2 k3 k4 k5 (e + 1) → K (p, d, n, m, h, k0, k1, k2, k3, k4, k5, 1, nI (e + 1)) = some ())
    {p : Pd} {d : Rd} {n m : St} {h : Hb} {k0 k1 k2 k3 k4 k5 : St} {f g parts : Int32} {R : Ru} {r : Nat} (hI : LInv p n h k0 k1 k2 k3 k4 k5 e g parts R) (hρ : ρ r = some R) :
    b_L_law_315 N ρ L xs K (p, d, setr n r, m, h, k0, k1, k2, k3, k4, k5, 1, nI e, g, f, parts) = some () := by
  obtain ⟨i1, i2, i3, i4, X, x1, x2, x3⟩ := hI
  have y1 := setr_ok x1 r
  have er : ρ (setr n r).2.2.2.2.2.2.1 = some R := hρ
  unfold b_L_law_315 b_L_law_354
  dsimp only
  rw [if_neg k10.mp, er, Option.bind_some, rule_0 i3, Option.bind_some, if_pos (show parts = nI _ from i4.trans i3.1), cnt_18, Option.bind_some, if_pos i1, isRule_ok hN i3 x2.2.2.2.1 y1.1.2.2.2.2.1 er, Option.bind_some, if_neg k10.mp]
  exact t355 hN he hK ⟨i1, i2, _, R, _, _, _, y1, x2, x3, hρ, i3⟩
theorem t248 (hN : 5000 ≤ N) (hL : L ≤ 260) {KL : (Pd × Rd × St × St × Hb × St × St × St × St × St × St × Int32 × Int32 × Int32 × Int32 × Int32) × Ru → Option Unit} {e : Nat} (he : e ≤ 7)
    (hK : ∀ p d n m h k0 k1 k2 k3 k4 k5, e < 7 → InvP ρ p n h k0 k1 k2 k3 k4 k5 (e + 1) → K (p, d, n, m, h, k0, k1, k2, k3, k4, k5, 1, nI (e + 1)) = some ())
    (hKL : ∀ p d n m h k0 k1 k2 k3 k4 k5 g f parts R, e < 7 → LInv p n h k0 k1 k2 k3 k4 k5 e g parts R → KL ((p, d, n, m, h, k0, k1, k2, k3, k4, k5, 1, nI e, g, f, parts), R) = some ())
    {p : Pd} {d : Rd} {n m : St} {h : Hb} {k0 k1 k2 k3 k4 k5 : St} (hI : InvP ρ p n h k0 k1 k2 k3 k4 k5 e) : b_L_law_248 N ρ L xs KL K (p, d, n, m, h, k0, k1, k2, k3, k4, k5, 1, nI e) = some () := by
  unfold b_L_law_248
  by_cases c7 : e = 7
  · refine (if_pos (show (7 : Int32) ≤ nI e by rw [c7]; decide)).trans ?_
    unfold b_L_law_759
    exact if_pos rfl
  · have he7 : e < 7 := by omega
    refine (if_neg (show ¬ (7 : Int32) ≤ nI e from nI_ge (b := 7) he7 (by decide))).trans ?_
    obtain ⟨g, hg⟩ := cell_ok (xs := xs) hL (k := 3 + e) (by omega)
    obtain ⟨f, hf⟩ := cell_ok (xs := xs) hL (k := 12 + e) (by omega)
    have e3 : (3 : Int32) + nI e = nI (3 + e) := by rw [show (3 : Int32) = nI 3 from rfl, nI_add]
    have e12 : (12 : Int32) + nI e = nI (12 + e) := by rw [show (12 : Int32) = nI 12 from rfl, nI_add]
    have em : nI e - nI e / (3 : Int32) * (3 : Int32) = nI (e % 3) := pk_rem (d := 3) (by omega) (by omega) (by omega)
    dsimp only
    rw [if_neg k10.mp, e3, hg, Option.bind_some, e12, hf, Option.bind_some]
    by_cases c3 : e % 3 = 0
    · rw [if_pos (show nI e - nI e / (3 : Int32) * (3 : Int32) = 0 by rw [em, c3]; rfl)]
      obtain ⟨i1, i2, X, R0, v, nn, lm, x1, x2, x3, x4, x5⟩ := hI
      have hp : p = pdW p.1 [] := Prod.ext (funext fun k => rfl) i1
      have ew : f_L_write N p n h k0 k1 k2 k3 k4 k5 g = some (1, pdW p.1 (txG g)) := by
        unfold f_L_write
        have := write_g (V0 := p) (Vn := n) (Vh := h) (k0 := k0) (k1 := k1) (k2 := k2) (k3 := k3) (k4 := k4) (k5 := k5) hN g p.1
        rw [← hp] at this
        exact this
      obtain ⟨S', r1, r2⟩ := read_g hN g p.1 d
      obtain ⟨h', q0, q1, q2, q3, q4, q5, a1, a2⟩ := record_h i2 (by simp) x1 x2.2.1
      rw [ew, Option.bind_some]
      dsimp only
      rw [if_neg k10.mp]
      unfold f_X5_fault
      rw [fault_g hN, Option.bind_some, Option.bind_some, if_pos rfl]
      unfold b_L_law_310 f_X5_load
      dsimp only
      rw [fault_g hN, Option.bind_some, if_pos rfl, a1, Option.bind_some, r1, Option.bind_some, Option.bind_some]
      exact hKL _ _ _ _ _ _ _ _ _ _ _ _ _ _ _ he7 ⟨rfl, HS_weak a2, r2, rfl, X, x1, x2, x3⟩
    · rw [if_neg (show ¬ nI e - nI e / (3 : Int32) * (3 : Int32) = 0 by rw [em]; exact nI_ne0 (by omega) (by omega))]
      exact t355 hN he7 (fun p d n m h k0 k1 k2 k3 k4 k5 hi => hK p d n m h k0 k1 k2 k3 k4 k5 he7 hi) hI
end BODY2
/-! the beginning -/
def P0 : Nat → Nat → Prt := fun r _ => (false, false, if r = 0 then 65 else if r = 1 then 66 else if r = 2 then 67 else 68, 65)
theorem P0_ok (r p : Nat) : okP (P0 r p) := by
  refine ⟨?_, .inl rfl⟩
  show isL (if r = 0 then 65 else if r = 1 then 66 else if r = 2 then 67 else 68)
  unfold isL
  repeat' split
  all_goals simp
def v0 (s : Nat) : En := ruE P0 (fun _ => 0) (nI s) 4
theorem first_ok {N : Nat} (hN : 5000 ≤ N) (V : Rd) : ∃ S', f_X2_read N V 7 chr7b (7 : Int32) = some S' ∧ Mean S'.2 v0 7 240 := by
  have hl : (rulT P0 (fun _ => 0) 4).length = 7 := by decide +kernel
  have hn : ruN P0 (fun _ => 0) 4 = 7 := by decide +kernel
  have hlm : ruL P0 (fun _ => 0) 4 = 240 := by decide +kernel
  have hr : ∀ q, q ≤ 3 → ruN P0 (fun _ => 0) q ≤ 36 := by decide +kernel
  have hT : ∀ k, k < 7 → (rulT P0 (fun _ => 0) 4)[k]? = some (chr7b k) := by decide +kernel
  obtain ⟨S', a1, a2⟩ := read_mean (P := P0) (pc := fun _ => 0) (r := 3) (V := V) (nt := 7) (Tt := chr7b) hN P0_ok (fun _ => by show 0 < 3; omega) hr (by rw [hn]; omega) (by decide) (by rw [hl]; omega) (by rw [hl]; omega) (by rw [hl]; exact hT)
  rw [hl] at a1
  rw [hn, hlm] at a2
  exact ⟨S', a1, a2⟩
theorem v0_0 : v0 0 = (0, 4, 7) := by decide +kernel
theorem v0_best : bst v0 256 = some 3 := by decide +kernel
def A0 : AS := (fun j => [50, 10, 6, 20, 5, 100, 800].getD j 0, fun _ => 0, [], 0, 0, 0, 0, 0, 0, 0)
theorem Rel_0 (r : Nat) : RelX (stI r) (A0, r, 0) := by
  refine ⟨⟨?_, fun j hj => rfl, rfl, fun i p hp => by simp [A0] at hp, rfl, rfl, rfl, rfl, rfl, rfl, rfl, 0, by omega, rfl⟩, rfl, rfl⟩
  have : ∀ j, j < 7 → (stI 0).1 j = nI (A0.1 j) := by decide +kernel
  exact this
theorem WA_0 : WA 0 A0 := ⟨by decide +kernel, by decide, fun p hp => absurd hp List.not_mem_nil, by decide, by decide, by decide, fun _ => rfl, by decide, by decide, List.Pairwise.nil, fun _ p hp => absurd hp List.not_mem_nil⟩
theorem sv_0 : ∀ (n : Nat) {T : Nat} {A : AS}, WA T A → A.2.2.2.2.1 ≠ 0 → A.2.2.2.2.2.2.1 = 0 → svA n A = 0
  | 0, _, _, _, _, _ => rfl
  | n + 1, T, A, h, h0, hv => by
    have h1 := (vA_stop (b := false) h (by rw [show mA A false = A.2.2.2.2.1 from if_neg (fun z => h0 z.1)]; exact h0)).2.2 hv
    have h2 := sv_0 n (WA_tick (b := false) h) (tick_md0 h0) (by rw [(tick_md h0).2]; exact h1)
    show vA A false + svA n (tickA A false) = 0
    omega
