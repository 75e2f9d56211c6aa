/-! PURE: the law's empties says yes, and all is as before -/
def Back (o : Option (Int32 × St × St × Hb × St × St × St × St × St × St)) (X : Xs) : Prop := ∃ n' m' h' q0 q1 q2 q3 q4 q5, o = some (1, n', m', h', q0, q1, q2, q3, q4, q5) ∧ RelX n' X ∧ HS h' (KK q0 q1 q2 q3 q4 q5) []
theorem empties_ok {N T : Nat} {Vp : Pd} {Vn Vm : St} {Vh : Hb} {k0 k1 k2 k3 k4 k5 : St} {X : Xs} {ρ : Nat → Option Ru} {R : Ru} {v : Nat → En} {nn : Nat} {lm : Int32} (hN : 5000 ≤ N) (hX : RelX Vn X) (H : HS Vh (KK k0 k1 k2 k3 k4 k5) []) (hA : WA T X.1) (hT : T < 2 ^ 27) (ht : X.1.2.2.2.2.2.1 + 1000 ≤ 99999) (hρ : ρ X.2.1 = some R) (hM : Mean R v nn lm) :
    Back (f_L_empties N Vp Vn Vm Vh k0 k1 k2 k3 k4 k5 ρ) X := by
  obtain ⟨m, V1, hm, hne, e1⟩ := emptyIn_ok (Vm := Vm) hN hX.1 hA (by omega) hM
  have hpass : ∀ (n1 : St) (h1 : Hb) (q0 q1 q2 q3 q4 q5 : St) (L : List Xs) (i n k1 : Nat), RelX n1 (itA i (decide ((v X.1.2.2.2.1).1 = 1)) X.1, X.2.1, k1) → HS h1 (KK q0 q1 q2 q3 q4 q5) L → L.length ≤ 5 → 1 ≤ n → i + n ≤ 900 → ∃ n' h' p0 p1 p2 p3 p4 p5 k', f_X5_pass N n1 h1 q0 q1 q2 q3 q4 q5 R (nI n) = some (nI (X.1.2.2.2.2.2.1 + i + n), n', h', p0, p1, p2, p3, p4, p5) ∧ RelX n' (itA (i + n) (decide ((v X.1.2.2.2.1).1 = 1)) X.1, X.2.1, k') ∧ HS h' (KK p0 p1 p2 p3 p4 p5) ((itA i (decide ((v X.1.2.2.2.1).1 = 1)) X.1, X.2.1, k1) :: L) := by
    intro n1 h1 q0 q1 q2 q3 q4 q5 L i n k1 hx hh hl hn1 hn2
    have ek := it_tk (decide ((v X.1.2.2.2.1).1 = 1)) i X.1
    obtain ⟨n', h', p0, p1, p2, p3, p4, p5, k', a1, a2, a3, a4⟩ := pass_ok (n := n) hN hh hl hx (WA_it i hA) (by omega) hM ⟨hn1, by omega⟩ (by show (itA i (decide ((v X.1.2.2.2.1).1 = 1)) X.1).2.2.2.2.2.1 + n ≤ 99999; rw [ek]; omega)
    refine ⟨n', h', p0, p1, p2, p3, p4, p5, k', ?_, ?_, a4⟩
    · rw [a1]
      show some (nI ((itA i (decide ((v X.1.2.2.2.1).1 = 1)) X.1).2.2.2.2.2.1 + n), _) = _
      rw [ek]
    · rw [it_add]
      have es : (itA i (decide ((v X.1.2.2.2.1).1 = 1)) X.1, X.2.1, k1).1.2.2.2.1 = X.1.2.2.2.1 := it_sn _ i X.1
      rw [es] at a2
      exact a2
  obtain ⟨b, hb⟩ : ∃ b, b = decide ((v X.1.2.2.2.1).1 = 1) := ⟨_, rfl⟩
  rw [← hb] at hne e1
  have hl := hA.2.1
  have eρ : ∀ W : St, W.2.2.2.2.2.2.1 = X.2.1 → ρ W.2.2.2.2.2.2.1 = some R := fun W h => by rw [h]; exact hρ
  have epe : ∀ W : St, RelX W X → W.2.2.2.2.2.2.2.1 = nI X.1.2.2.1.length := fun W h => h.1.2.2.1
  have e28 : ∀ (W : St) (d : Int32), (d = 0 ↔ X.1.2.2.1.length = 0) → Back (b_L_empties_28 N Vp Vn Vm Vh k0 k1 k2 k3 k4 k5 ρ (W, d, nI X.1.2.2.1.length)) X := by
    intro W d hd
    refine ⟨Vn, W, Vh, k0, k1, k2, k3, k4, k5, ?_, hX, H⟩
    unfold b_L_empties_28 b_L_empties_37 b_L_empties_46 b_L_empties_54
    dsimp only
    rw [zb_ok (.inr rfl)]
    by_cases c : X.1.2.2.1.length = 0
    · rw [if_pos (hd.mpr c), if_pos (show nI X.1.2.2.1.length = 0 by rw [c]; rfl), if_pos rfl]
    · rw [if_neg (fun z => c (hd.mp z)), if_neg (nI_ne0 (by omega) (by omega)), if_pos rfl]
  have e142 : ∀ (n m : St) (h : Hb) (q0 q1 q2 q3 q4 q5 : St) (L : List Xs), HS h (KK q0 q1 q2 q3 q4 q5) (X :: L) → Back (b_L_empties_142 N Vp Vn Vm Vh k0 k1 k2 k3 k4 k5 ρ (n, m, h, q0, q1, q2, q3, q4, q5, nI X.1.2.2.1.length)) X := by
    intro n m h q0 q1 q2 q3 q4 q5 L hh
    obtain ⟨a, n', h', u1, u2, u3, u4⟩ := undo_h (Vn := n) hh
    refine ⟨n', m, h', q0, q1, q2, q3, q4, q5, ?_, u3, HS_weak u4⟩
    unfold b_L_empties_142 b_L_empties_163
    dsimp only
    rw [u1, Option.bind_some]
    dsimp only
    rw [if_neg (nI_pos (by omega)), cnt_1, Option.bind_some, if_pos (epe n' u3)]
    exact zb_ok (.inr rfl)
  by_cases c : (itA m b X.1).2.2.1.length = 0
  · rw [if_pos c] at e1
    unfold f_L_empties
    rw [eρ Vn hX.2.1, Option.bind_some, e1, Option.bind_some, cnt_1, Option.bind_some, epe Vn hX]
    dsimp only
    by_cases m0 : m = 0
    · subst m0
      rw [if_pos (show nI 0 = 0 from rfl)]
      exact e28 _ _ ⟨fun _ => c, fun _ => rfl⟩
    · have hlen := hne 0 (by omega)
      have hlen' : X.1.2.2.1.length ≠ 0 := hlen
      have hz : nI m ≠ 0 := nI_ne0 (by omega) (by omega)
      rw [if_neg hz, if_neg (show ¬ nI m = -6 from fun z => by
        have h0 : ¬ nI m < 0 := nI_pos (by omega)
        rw [z] at h0
        exact h0 (by decide))]
      by_cases m9 : m ≤ 900
      · rw [if_pos (show nI m ≤ (900 : Int32) from nI_le (b := 900) m9 (by decide)), cnt_5, Option.bind_some]
        have eof : Vn.2.2.2.2.2.2.2.2.2.2.2.2.1 = X.1.2.2.2.2.2.2.2.2.1 := hX.1.2.2.2.2.2.2.2.2.2.1
        rw [eof]
        have e84 : ∀ (n1 m1 : St) (h1 : Hb) (q0 q1 q2 q3 q4 q5 : St) (kx : Nat) (L : List Xs), RelX n1 (itA (m - 1) b X.1, X.2.1, kx) → HS h1 (KK q0 q1 q2 q3 q4 q5) L → ((m = 1 ∧ (itA (m - 1) b X.1, X.2.1, kx) = X) ∨ (m ≠ 1 ∧ L = [X])) → L.length ≤ 1 → Back (b_L_empties_84 N Vp Vn Vm Vh k0 k1 k2 k3 k4 k5 ρ (n1, m1, h1, q0, q1, q2, q3, q4, q5, nI m, nI X.1.2.2.1.length, X.1.2.2.2.2.2.2.2.2.1)) X := by
          intro n1 m1 h1 q0 q1 q2 q3 q4 q5 kx L hx hh hc hL
          rw [hb] at hx hc
          obtain ⟨n2, h2, p0, p1, p2, p3, p4, p5, k2', a1, a2, a3⟩ := hpass n1 h1 q0 q1 q2 q3 q4 q5 L (m - 1) 1 kx hx hh (by omega) (by omega) (by omega)
          rw [show m - 1 + 1 = m from by omega] at a2
          rw [← hb] at a2 a3 hc
          have a1' : f_X5_pass N n1 h1 q0 q1 q2 q3 q4 q5 R 1 = some (nI (X.1.2.2.2.2.2.1 + (m - 1) + 1), n2, h2, p0, p1, p2, p3, p4, p5) := a1
          have hA2 := WA_it (b := b) m hA
          obtain ⟨m', V3, _, hne3, e3⟩ := emptyIn_ok (Vm := m1) hN a2.1 hA2 (by omega) hM
          have hm' : m' = 0 := by
            rcases Nat.eq_zero_or_pos m' with z | z
            · exact z
            · exact absurd c (hne3 0 z)
          subst hm'
          have e3' : f_X5_emptyIn N n2 m1 R = some (0, V3) := by rw [e3]; exact congrArg (fun z => some (z, V3)) (if_pos c)
          have eo2 : n2.2.2.2.2.2.2.2.2.2.2.2.2.1 = X.1.2.2.2.2.2.2.2.2.1 + nI X.1.2.2.1.length := by
            have h1 : n2.2.2.2.2.2.2.2.2.2.2.2.2.1 = (itA m b X.1).2.2.2.2.2.2.2.2.1 := a2.1.2.2.2.2.2.2.2.2.2.1
            rw [h1, it_of, c, Nat.sub_zero]
          unfold b_L_empties_84
          dsimp only
          rw [eρ n1 hx.2.1, Option.bind_some, a1', Option.bind_some]
          dsimp only
          rw [if_neg (nI_nle (by omega) (by omega)), cnt_1, Option.bind_some, if_pos (show n2.2.2.2.2.2.2.2.1 = 0 by rw [a2.1.2.2.1]; show nI (itA m b X.1).2.2.1.length = 0; rw [c]; rfl), cnt_5, Option.bind_some, if_pos eo2, eρ n2 a2.2.1, Option.bind_some, e3', Option.bind_some]
          dsimp only
          rw [if_pos rfl]
          unfold b_L_empties_123
          dsimp only
          rw [if_neg k10.mp]
          rcases hc with ⟨hm1, hXX⟩ | ⟨hm1, hLL⟩
          · rw [if_pos (show nI m = (1 : Int32) by rw [hm1]; rfl)]
            rw [hXX] at a3
            exact e142 _ _ _ _ _ _ _ _ _ _ a3
          · rw [if_neg (show ¬ nI m = (1 : Int32) from fun z => hm1 ((nI_eq (b := 1) (by omega) (by decide)).mp z))]
            obtain ⟨a, n3, h3, u1, u2, u3, u4⟩ := undo_h (Vn := n2) a3
            rw [u1, Option.bind_some]
            dsimp only
            rw [if_neg (nI_pos (by omega))]
            rw [hLL] at u4
            exact e142 _ _ _ _ _ _ _ _ _ _ u4
        by_cases m1 : m = 1
        · rw [if_pos (show nI m = (1 : Int32) by rw [m1]; rfl)]
          exact e84 Vn V1 Vh k0 k1 k2 k3 k4 k5 X.2.2 [] (by rw [m1]; exact hX) H (.inl ⟨m1, by rw [m1]; rfl⟩) (by simp)
        · rw [if_neg (show ¬ nI m = (1 : Int32) from fun z => m1 ((nI_eq (b := 1) (by omega) (by decide)).mp z)), Option.bind_some]
          obtain ⟨n2, h2, p0, p1, p2, p3, p4, p5, k2', a1, a2, a3⟩ := hpass Vn Vh k0 k1 k2 k3 k4 k5 [] 0 (m - 1) X.2.2 hX H (by simp) (by omega) (by omega)
          rw [Nat.zero_add, ← hb] at a2
          have em : nI m - 1 = nI (m - 1) := by rw [show (1 : Int32) = nI 1 from rfl, pk_sub (by omega)]
          have hl1 := hne (m - 1) (by omega)
          have hl2 := (WA_it (b := b) (m - 1) hA).2.1
          rw [em, a1, Option.bind_some]
          dsimp only
          rw [if_neg (nI_nle (by omega) (by omega)), cnt_1, Option.bind_some, if_neg (show ¬ n2.2.2.2.2.2.2.2.1 ≤ 0 by rw [show n2.2.2.2.2.2.2.2.1 = nI (itA (m - 1) b X.1).2.2.1.length from a2.1.2.2.1]; exact nI_nle (Nat.pos_of_ne_zero hl1) (by omega))]
          exact e84 n2 V1 h2 p0 p1 p2 p3 p4 p5 k2' [X] a2 a3 (.inr ⟨m1, rfl⟩) (by simp)
      · rw [if_neg (show ¬ nI m ≤ (900 : Int32) from nI_ge (a := 900) (by omega) (by omega))]
        exact e28 _ _ ⟨fun z => absurd z hz, fun z => absurd z hlen'⟩
  · rw [if_neg c] at e1
    have hlen : X.1.2.2.1.length ≠ 0 := fun z => c (by have := it_len b m X.1; omega)
    unfold f_L_empties
    rw [eρ Vn hX.2.1, Option.bind_some, e1, Option.bind_some, cnt_1, Option.bind_some, epe Vn hX]
    dsimp only
    rw [if_neg (show ¬ (-6 : Int32) = 0 by decide), if_pos rfl]
    exact e28 _ _ ⟨fun z => absurd z (by decide), fun z => absurd z hlen⟩
