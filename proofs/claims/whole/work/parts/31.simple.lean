/-! the simple commands -/
theorem upd_n {f : Fn} {k x : Nat} {v : Int32} (h : x ≠ k) : upd f k v x = f x := if_neg h
theorem upd_e {f : Fn} {k x : Nat} {v : Int32} (h : x = k) : upd f k v x = v := if_pos h
theorem in_0 {x a b : Int32} (h : x < a ∨ b < x) : f_X6_in x a b = some 0 := by
  unfold f_X6_in b_X6_in_14 b_X6_in_15
  by_cases h1 : x < a
  · rw [if_pos h1]; rfl
  · rw [if_neg h1, if_pos (h.resolve_left h1)]; rfl
theorem in_1 {x a b : Int32} (h1 : ¬ x < a) (h2 : ¬ b < x) : f_X6_in x a b = some 1 := by
  unfold f_X6_in b_X6_in_14 b_X6_in_15
  rw [if_neg h1, if_neg h2]; rfl
theorem z_lt {x y : Int32} : x < y ↔ x.toInt < y.toInt := Int32.lt_iff_toInt_lt
theorem z_le {x y : Int32} : x ≤ y ↔ x.toInt ≤ y.toInt := Int32.le_iff_toInt_le
theorem z_n {n : Nat} (h : n < 2 ^ 31) : (nI n).toInt = n := nI_toInt h
theorem RelSt.set {T : Nat} {R : Ru} {V : St} {z : Fn} (h : RelSt T R V z) {j : Nat} {x : Int32} (hj : j < 7) (h1 : ¬ x < lstL.getD j 0) (h2 : x ≤ lstG.getD j 0) : RelSt T R (upd V.1 j x, V.2) (upd z j x) := by
  obtain ⟨p, t, s, a1, a2, a3, b1, b2, b3, b4, b5, b6, c1, c2, c3, c4, c5, c6, c7, c8, n, hn, hs⟩ := h
  have e : ∀ k, 7 ≤ k → upd z j x k = z k := fun k hk => upd_n (by omega)
  refine ⟨p, t, s, a1, a2, a3, b1, (e 10 (by omega)).trans b2, b3, (e 7 (by omega)).trans b4, b5, (e 11 (by omega)).trans b6, ?_, ?_, ?_, ?_, fun j hj => (c5 j hj).trans (e _ (by omega)).symm, ?_, ?_, fun j hj => (c8 j hj).trans (e _ (by omega)).symm, n, (e 22 (by omega)).trans hn, ?_⟩
  · intro k hk
    show upd V.1 j x k = upd z j x k
    by_cases hkj : k = j
    · rw [upd_e hkj, upd_e hkj]
    · rw [upd_n hkj, upd_n hkj]; exact c1 k hk
  · rw [z_lt] at h1
    rw [z_le] at h2
    have hc : j = 0 ∨ j = 1 ∨ j = 2 ∨ j = 3 ∨ j = 4 ∨ j = 5 ∨ j = 6 := by omega
    rcases hc with rfl | rfl | rfl | rfl | rfl | rfl | rfl
    · rw [upd_e rfl, upd_n (show 1 ≠ 0 by decide), upd_n (show 2 ≠ 0 by decide), upd_n (show 3 ≠ 0 by decide), upd_n (show 4 ≠ 0 by decide), upd_n (show 5 ≠ 0 by decide), upd_n (show 6 ≠ 0 by decide)]
      exact ⟨Int.not_lt.mp h1, h2, c2.2.2⟩
    · rw [upd_e rfl, upd_n (show 0 ≠ 1 by decide), upd_n (show 2 ≠ 1 by decide), upd_n (show 3 ≠ 1 by decide), upd_n (show 4 ≠ 1 by decide), upd_n (show 5 ≠ 1 by decide), upd_n (show 6 ≠ 1 by decide)]
      exact ⟨c2.1, c2.2.1, Int.not_lt.mp h1, h2, c2.2.2.2.2⟩
    · rw [upd_e rfl, upd_n (show 0 ≠ 2 by decide), upd_n (show 1 ≠ 2 by decide), upd_n (show 3 ≠ 2 by decide), upd_n (show 4 ≠ 2 by decide), upd_n (show 5 ≠ 2 by decide), upd_n (show 6 ≠ 2 by decide)]
      exact ⟨c2.1, c2.2.1, c2.2.2.1, c2.2.2.2.1, Int.not_lt.mp h1, h2, c2.2.2.2.2.2.2⟩
    · rw [upd_e rfl, upd_n (show 0 ≠ 3 by decide), upd_n (show 1 ≠ 3 by decide), upd_n (show 2 ≠ 3 by decide), upd_n (show 4 ≠ 3 by decide), upd_n (show 5 ≠ 3 by decide), upd_n (show 6 ≠ 3 by decide)]
      exact ⟨c2.1, c2.2.1, c2.2.2.1, c2.2.2.2.1, c2.2.2.2.2.1, c2.2.2.2.2.2.1, Int.not_lt.mp h1, h2, c2.2.2.2.2.2.2.2.2⟩
    · rw [upd_e rfl, upd_n (show 0 ≠ 4 by decide), upd_n (show 1 ≠ 4 by decide), upd_n (show 2 ≠ 4 by decide), upd_n (show 3 ≠ 4 by decide), upd_n (show 5 ≠ 4 by decide), upd_n (show 6 ≠ 4 by decide)]
      exact ⟨c2.1, c2.2.1, c2.2.2.1, c2.2.2.2.1, c2.2.2.2.2.1, c2.2.2.2.2.2.1, c2.2.2.2.2.2.2.1, c2.2.2.2.2.2.2.2.1, Int.not_lt.mp h1, h2, c2.2.2.2.2.2.2.2.2.2.2⟩
    · rw [upd_e rfl, upd_n (show 0 ≠ 5 by decide), upd_n (show 1 ≠ 5 by decide), upd_n (show 2 ≠ 5 by decide), upd_n (show 3 ≠ 5 by decide), upd_n (show 4 ≠ 5 by decide), upd_n (show 6 ≠ 5 by decide)]
      exact ⟨c2.1, c2.2.1, c2.2.2.1, c2.2.2.2.1, c2.2.2.2.2.1, c2.2.2.2.2.2.1, c2.2.2.2.2.2.2.1, c2.2.2.2.2.2.2.2.1, c2.2.2.2.2.2.2.2.2.1, c2.2.2.2.2.2.2.2.2.2.1, Int.not_lt.mp h1, h2, c2.2.2.2.2.2.2.2.2.2.2.2.2⟩
    · rw [upd_e rfl, upd_n (show 0 ≠ 6 by decide), upd_n (show 1 ≠ 6 by decide), upd_n (show 2 ≠ 6 by decide), upd_n (show 3 ≠ 6 by decide), upd_n (show 4 ≠ 6 by decide), upd_n (show 5 ≠ 6 by decide)]
      exact ⟨c2.1, c2.2.1, c2.2.2.1, c2.2.2.2.1, c2.2.2.2.2.1, c2.2.2.2.2.2.1, c2.2.2.2.2.2.2.1, c2.2.2.2.2.2.2.2.1, c2.2.2.2.2.2.2.2.2.1, c2.2.2.2.2.2.2.2.2.2.1, c2.2.2.2.2.2.2.2.2.2.2.1, c2.2.2.2.2.2.2.2.2.2.2.2.1, Int.not_lt.mp h1, h2⟩
  · rw [e 8 (by omega)]; exact c3
  · rw [e 9 (by omega), e 8 (by omega)]; exact c4
  · rw [e 16 (by omega), e 17 (by omega), e 18 (by omega), e 19 (by omega), e 20 (by omega), e 21 (by omega)]; exact c6
  · intro i hi
    have := c7 i hi
    rw [e (83 + 3 * i) (by omega), e (84 + 3 * i) (by omega), e (85 + 3 * i) (by omega)]
    exact this
  · obtain ⟨h1, h2, h3⟩ := hs
    refine ⟨h1, h2, fun N hN M hM hT => h3 N hN M hM (fun k hk => (hT k hk).trans (e _ (by omega)))⟩
theorem st_set {ρ : Nat → Ru} {RS : Nat → Prop} {Vp : Pd} {Vd : Rd} {Vn : St} {Vm : St} {Vh : Hb} {Vk0 : St} {Vk1 : St} {Vk2 : St} {Vk3 : St} {Vk4 : St} {Vk5 : St} {Vs0 : St} {Vs1 : St} {Vz : Fn} {M : Md} {N : Nat} (hN : 5000 ≤ N) (H : RelS ρ RS (Vp, Vd, Vn, Vm, Vh, Vk0, Vk1, Vk2, Vk3, Vk4, Vk5, Vs0, Vs1, Vz) M) (p0 : Int32) (p1 : Int32) : ∃ (o1 : Int32 × St × Hb × St × St × St × St × St × St) (o2 : Int32 × Md), f_X5_set Vn Vh Vk0 Vk1 Vk2 Vk3 Vk4 Vk5 p0 p1 = some o1 ∧ f_X6_set N M p0 p1 = some o2 ∧ o1.1 = o2.1 ∧ RelS ρ RS (Vp, Vd, o1.2.1, Vm, o1.2.2.1, o1.2.2.2.1, o1.2.2.2.2.1, o1.2.2.2.2.2.1, o1.2.2.2.2.2.2.1, o1.2.2.2.2.2.2.2.1, o1.2.2.2.2.2.2.2.2, Vs0, Vs1, Vz) o2.2 := by
  obtain ⟨hn, hh, hs, hp⟩ := RelS_iff.mp H
  have bad : (p0 < 0 ∨ 6 < p0) → f_X5_set Vn Vh Vk0 Vk1 Vk2 Vk3 Vk4 Vk5 p0 p1 = some (-2, Vn, Vh, Vk0, Vk1, Vk2, Vk3, Vk4, Vk5) → ∃ (o1 : Int32 × St × Hb × St × St × St × St × St × St) (o2 : Int32 × Md), f_X5_set Vn Vh Vk0 Vk1 Vk2 Vk3 Vk4 Vk5 p0 p1 = some o1 ∧ f_X6_set N M p0 p1 = some o2 ∧ o1.1 = o2.1 ∧ RelS ρ RS (Vp, Vd, o1.2.1, Vm, o1.2.2.1, o1.2.2.2.1, o1.2.2.2.2.1, o1.2.2.2.2.2.1, o1.2.2.2.2.2.2.1, o1.2.2.2.2.2.2.2.1, o1.2.2.2.2.2.2.2.2, Vs0, Vs1, Vz) o2.2 :=
    fun h1 h2 => ⟨_, (-2, M), h2, by unfold f_X6_set; rw [in_0 h1]; rfl, rfl, H⟩
  rcases pk_ix p0 (n := 7) (by decide) with hlt | hge | ⟨j, hj, rfl⟩
  · exact bad (.inl hlt) (by unfold f_X5_set; rw [if_pos hlt]; rfl)
  · have hz := z_le.mp hge
    rw [z_n (by decide)] at hz
    exact bad (.inr (z_lt.mpr (by rw [show (6 : Int32).toInt = 6 from by decide]; omega))) (by
      unfold f_X5_set
      rw [if_neg (by rw [z_lt, show (0 : Int32).toInt = 0 from by decide]; omega), if_neg (by rw [z_lt, show (7 : Int32).toInt = 7 from by decide]; omega)]; rfl)
  · have hc := cl j (by omega)
    have k1 : ¬ nI j < 0 := nI_pos (by omega)
    have k2 : nI j < (7 : Int32) := nI_lt hj (by decide)
    have k3 : ¬ (6 : Int32) < nI j := by
      rw [z_lt, z_n (by omega), show (6 : Int32).toInt = 6 from by decide]; omega
    have hl : f_X6_leastOf (nI j) = some (lstL.getD j 0) := by
      have hcc : j = 0 ∨ j = 1 ∨ j = 2 ∨ j = 3 ∨ j = 4 ∨ j = 5 ∨ j = 6 := by omega
      rcases hcc with rfl | rfl | rfl | rfl | rfl | rfl | rfl <;> rfl
    have hm : f_X6_mostOf (nI j) = some (lstG.getD j 0) := by
      have hcc : j = 0 ∨ j = 1 ∨ j = 2 ∨ j = 3 ∨ j = 4 ∨ j = 5 ∨ j = 6 := by omega
      rcases hcc with rfl | rfl | rfl | rfl | rfl | rfl | rfl <;> rfl
    unfold f_X5_set f_X6_set
    rw [if_neg k1, if_pos k2, ix_nI hj (by decide), in_1 k1 k3, hc]
    simp only [Option.bind_some]
    rw [if_neg (show ¬ (1 : Int32) = 0 by decide), hl, hm]
    simp only [Option.bind_some]
    by_cases h1 : p1 < lstL.getD j 0
    · rw [if_pos h1, in_0 (.inl h1)]
      exact ⟨_, _, rfl, rfl, rfl, H⟩
    · rw [if_neg h1]
      by_cases h2 : p1 ≤ lstG.getD j 0
      · obtain ⟨o, P, c, f1, f2, f3⟩ := r_record hN H
        rw [ix_nI hj (by decide), if_pos h2, in_1 h1 (by rw [z_lt]; rw [z_le] at h2; omega), f1, f2]
        simp only [Option.bind_some]
        rw [if_neg (show ¬ (1 : Int32) = 0 by decide), ix_nI hj (by decide), ix_nI hj (by decide), ix_nI (show j < 173 by omega) (by decide), ix_nI (show j < 173 by omega) (by decide)]
        refine ⟨_, _, rfl, rfl, ?_, RelS_iff.mpr ⟨⟨RelSt.set hn.1 hj h1 h2, hn.2⟩, f3, hs, hp⟩⟩
        obtain ⟨p, t, s, a1, a2, a3, b1, b2, b3, b4, b5, b6, c1, c2⟩ := hn.1
        exact c1 j hj
      · rw [ix_nI hj (by decide), if_neg h2, in_0 (.inr (by rw [z_lt]; rw [z_le] at h2; omega))]
        exact ⟨_, _, rfl, rfl, rfl, H⟩
theorem z_0 : (0 : Int32).toInt = 0 := by decide
theorem z_1 : (1 : Int32).toInt = 1 := by decide
theorem z_2 : (2 : Int32).toInt = 2 := by decide
theorem z_3 : (3 : Int32).toInt = 3 := by decide
theorem z_4 : (4 : Int32).toInt = 4 := by decide
theorem z_5 : (5 : Int32).toInt = 5 := by decide
theorem z_6 : (6 : Int32).toInt = 6 := by decide
theorem z_7 : (7 : Int32).toInt = 7 := by decide
theorem z_20 : (20 : Int32).toInt = 20 := by decide
theorem z_200 : (200 : Int32).toInt = 200 := by decide
theorem c_2 : Int32.toNatClampNeg (2 : Int32) = 2 := by decide
theorem c_7 : Int32.toNatClampNeg (7 : Int32) = 7 := by decide
theorem c_8 : Int32.toNatClampNeg (8 : Int32) = 8 := by decide
theorem c_9 : Int32.toNatClampNeg (9 : Int32) = 9 := by decide
theorem c_10 : Int32.toNatClampNeg (10 : Int32) = 10 := by decide
theorem c_11 : Int32.toNatClampNeg (11 : Int32) = 11 := by decide
theorem c_16 : Int32.toNatClampNeg (16 : Int32) = 16 := by decide
theorem c_17 : Int32.toNatClampNeg (17 : Int32) = 17 := by decide
theorem c_18 : Int32.toNatClampNeg (18 : Int32) = 18 := by decide
theorem c_19 : Int32.toNatClampNeg (19 : Int32) = 19 := by decide
theorem c_20 : Int32.toNatClampNeg (20 : Int32) = 20 := by decide
theorem c_21 : Int32.toNatClampNeg (21 : Int32) = 21 := by decide
theorem RelSt.come {T : Nat} {R : Ru} {V : St} {z : Fn} (h : RelSt T R V z) {p : Nat} {w : Int32} (hp : p < 20) (ep : z 10 = nI p) (h1 : ¬ w < 1) (h2 : w ≤ 200) :
    RelSt T R (V.1, upd V.2.1 p 0, upd V.2.2.1 p w, upd V.2.2.2.1 p V.2.2.2.2.2.2.2.2.2.2.1, V.2.2.2.2.1, V.2.2.2.2.2.1, V.2.2.2.2.2.2.1, nI (p + 1), V.2.2.2.2.2.2.2.2) (upd (upd (upd (upd z (83 + 3 * p) w) (83 + 3 * p + 1) 0) (83 + 3 * p + 2) (z 7)) 10 (nI (p + 1))) := by
  obtain ⟨p', t, s, a1, a2, a3, b1, b2, b3, b4, b5, b6, c1, c2, c3, c4, c5, c6, c7, c8, n, hn, hs⟩ := h
  obtain rfl : p' = p := (nI_eq (by omega) (by omega)).mp (b2.symm.trans ep)
  have e : ∀ k, k < 83 ∨ 143 ≤ k → k ≠ 10 → upd (upd (upd (upd z (83 + 3 * p') w) (83 + 3 * p' + 1) 0) (83 + 3 * p' + 2) (z 7)) 10 (nI (p' + 1)) k = z k := fun k hk h0 => by
    rw [upd_n h0, upd_n (by omega), upd_n (by omega), upd_n (by omega)]
  refine ⟨p' + 1, t, s, by omega, a2, a3, rfl, upd_e rfl, b3, (e 7 (by omega) (by omega)).trans b4, b5, (e 11 (by omega) (by omega)).trans b6, fun j hj => (c1 j hj).trans (e j (by omega) (by omega)).symm, ?_, ?_, ?_, fun j hj => (c5 j hj).trans (e _ (by omega) (by omega)).symm, ?_, ?_, fun j hj => (c8 j hj).trans (e _ (by omega) (by omega)).symm, n, (e 22 (by omega) (by omega)).trans hn, ?_⟩
  · rw [e 0 (by omega) (by omega), e 1 (by omega) (by omega), e 2 (by omega) (by omega), e 3 (by omega) (by omega), e 4 (by omega) (by omega), e 5 (by omega) (by omega), e 6 (by omega) (by omega)]; exact c2
  · rw [e 8 (by omega) (by omega)]; exact c3
  · rw [e 9 (by omega) (by omega), e 8 (by omega) (by omega)]; exact c4
  · rw [e 16 (by omega) (by omega), e 17 (by omega) (by omega), e 18 (by omega) (by omega), e 19 (by omega) (by omega), e 20 (by omega) (by omega), e 21 (by omega) (by omega)]; exact c6
  · intro i hi
    show upd V.2.2.1 p' w i = _ ∧ (upd V.2.1 p' 0 i = _ ∧ _) ∧ upd V.2.2.2.1 p' V.2.2.2.2.2.2.2.2.2.2.1 i = _ ∧ _
    by_cases hip : i = p'
    · subst hip
      rw [upd_e rfl, upd_e rfl, upd_e rfl, upd_n (show 83 + 3 * i ≠ 10 by omega), upd_n (show 83 + 3 * i ≠ 83 + 3 * i + 2 by omega), upd_n (show 83 + 3 * i ≠ 83 + 3 * i + 1 by omega), upd_e rfl, upd_n (show 84 + 3 * i ≠ 10 by omega), upd_n (show 84 + 3 * i ≠ 83 + 3 * i + 2 by omega), upd_e (show 84 + 3 * i = 83 + 3 * i + 1 by omega), upd_n (show 85 + 3 * i ≠ 10 by omega), upd_e (show 85 + 3 * i = 83 + 3 * i + 2 by omega)]
      rw [z_lt, z_1] at h1
      rw [z_le, z_200] at h2
      exact ⟨rfl, ⟨rfl, by decide⟩, b3.trans b4.symm, by omega, h2⟩
    · have := c7 i (by omega)
      rw [upd_n hip, upd_n hip, upd_n hip, upd_n (show 83 + 3 * i ≠ 10 by omega), upd_n (show 83 + 3 * i ≠ 83 + 3 * p' + 2 by omega), upd_n (show 83 + 3 * i ≠ 83 + 3 * p' + 1 by omega), upd_n (show 83 + 3 * i ≠ 83 + 3 * p' by omega), upd_n (show 84 + 3 * i ≠ 10 by omega), upd_n (show 84 + 3 * i ≠ 83 + 3 * p' + 2 by omega), upd_n (show 84 + 3 * i ≠ 83 + 3 * p' + 1 by omega), upd_n (show 84 + 3 * i ≠ 83 + 3 * p' by omega), upd_n (show 85 + 3 * i ≠ 10 by omega), upd_n (show 85 + 3 * i ≠ 83 + 3 * p' + 2 by omega), upd_n (show 85 + 3 * i ≠ 83 + 3 * p' + 1 by omega), upd_n (show 85 + 3 * i ≠ 83 + 3 * p' by omega)]
      exact this
  · obtain ⟨h1, h2, h3⟩ := hs
    refine ⟨h1, h2, fun N hN M hM hT => h3 N hN M hM (fun k hk => (hT k hk).trans (e _ (by omega) (by omega)))⟩
theorem ppl {T : Nat} {R : Ru} {V : St} {z : Fn} (h : RelSt T R V z) : ∃ p, p ≤ 20 ∧ V.2.2.2.2.2.2.2.1 = nI p ∧ z 10 = nI p := by
  obtain ⟨p, t, s, a1, a2, a3, b1, b2, b3⟩ := h
  exact ⟨p, a1, b1, b2⟩
theorem tim {T : Nat} {R : Ru} {V : St} {z : Fn} (h : RelSt T R V z) : ∃ t, t ≤ T ∧ V.2.2.2.2.2.2.2.2.2.2.1 = nI t ∧ z 7 = nI t := by
  obtain ⟨p, t, s, a1, a2, a3, b1, b2, b3, b4, b5⟩ := h
  exact ⟨t, a2, b3, b4⟩
theorem sns {T : Nat} {R : Ru} {V : St} {z : Fn} (h : RelSt T R V z) : ∃ s, s < 256 ∧ V.2.2.2.2.2.2.2.2.1 = nI s ∧ z 11 = nI s := by
  obtain ⟨p, t, s, a1, a2, a3, b1, b2, b3, b4, b5, b6, b7⟩ := h
  exact ⟨s, a3, b5, b6⟩
theorem mod {T : Nat} {R : Ru} {V : St} {z : Fn} (h : RelSt T R V z) : V.2.2.2.2.2.2.2.2.2.1 = z 9 ∧ (z 9 = 0 ∨ z 9 = 1 ∨ z 9 = 2) ∧ (z 9 = 2 → z 8 = 0) := by
  obtain ⟨p, t, s, a1, a2, a3, b1, b2, b3, b4, b5, b6, c1, c2, c3, c4, c5⟩ := h
  exact c4
theorem st_come {ρ : Nat → Ru} {RS : Nat → Prop} {Vp : Pd} {Vd : Rd} {Vn : St} {Vm : St} {Vh : Hb} {Vk0 : St} {Vk1 : St} {Vk2 : St} {Vk3 : St} {Vk4 : St} {Vk5 : St} {Vs0 : St} {Vs1 : St} {Vz : Fn} {M : Md} {N : Nat} (hN : 5000 ≤ N) (H : RelS ρ RS (Vp, Vd, Vn, Vm, Vh, Vk0, Vk1, Vk2, Vk3, Vk4, Vk5, Vs0, Vs1, Vz) M) (p0 : Int32) : ∃ (o1 : Int32 × St × Hb × St × St × St × St × St × St) (o2 : Int32 × Md), f_X5_come Vn Vh Vk0 Vk1 Vk2 Vk3 Vk4 Vk5 p0 = some o1 ∧ f_X6_come N M p0 = some o2 ∧ o1.1 = o2.1 ∧ RelS ρ RS (Vp, Vd, o1.2.1, Vm, o1.2.2.1, o1.2.2.2.1, o1.2.2.2.2.1, o1.2.2.2.2.2.1, o1.2.2.2.2.2.2.1, o1.2.2.2.2.2.2.2.1, o1.2.2.2.2.2.2.2.2, Vs0, Vs1, Vz) o2.2 := by
  obtain ⟨hn, hh, hs, hp⟩ := RelS_iff.mp H
  unfold f_X5_come f_X6_come
  by_cases h1 : p0 < 1
  · rw [if_pos h1, in_0 (.inl h1)]
    exact ⟨_, (-2, M), rfl, rfl, rfl, H⟩
  rw [if_neg h1]
  by_cases h2 : p0 ≤ 200
  · rw [if_pos h2, in_1 h1 (by rw [z_lt]; rw [z_le] at h2; omega)]
    simp only [Option.bind_some]
    rw [if_neg (show ¬ (1 : Int32) = 0 by decide), c_10, c_9]
    obtain ⟨p, hp20, e1, e2⟩ := ppl hn.1
    rw [e1, e2]
    by_cases h3 : p = 20
    · subst h3
      rw [if_neg (show ¬ nI 20 < (20 : Int32) by decide), if_pos (show nI 20 = (20 : Int32) from rfl)]
      exact ⟨_, _, rfl, rfl, rfl, H⟩
    · rw [if_pos (show nI p < (20 : Int32) from nI_lt (show p < 20 by omega) (by decide)), if_neg (show ¬ nI p = (20 : Int32) from fun z => h3 ((nI_eq (by omega) (by decide)).mp z)), (mod hn.1).1]
      by_cases h4 : M.1 9 = 0
      · rw [if_pos h4, if_pos h4]
        obtain ⟨o, P, c, f1, f2, f3⟩ := r_record hN H
        rw [f1, f2]
        simp only [Option.bind_some]
        have hq : (83 : Int32) + 3 * nI p = nI (83 + 3 * p) := by rw [show (3 : Int32) = nI 3 from rfl, pk_mul, show (83 : Int32) = nI 83 from rfl, nI_add]
        have hq1 : nI (83 + 3 * p) + (1 : Int32) = nI (83 + 3 * p + 1) := nI_1 _
        have hq2 : nI (83 + 3 * p) + (2 : Int32) = nI (83 + 3 * p + 2) := nI_add _ 2
        unfold f_X4_stepOn
        rw [e1, if_pos (show nI p < (20 : Int32) from nI_lt (show p < 20 by omega) (by decide)), ix_nI (show p < 20 by omega) (by decide), ix_nI (show p < 20 by omega) (by decide), ix_nI (show p < 20 by omega) (by decide)]
        rw [e2, hq, hq1, hq2, ix_nI (show 83 + 3 * p < 173 by omega) (by decide), ix_nI (show 83 + 3 * p + 1 < 173 by omega) (by decide), ix_nI (show 83 + 3 * p + 2 < 173 by omega) (by decide), cl _ (show 83 + 3 * p < 2 ^ 31 by omega), cl _ (show 83 + 3 * p + 1 < 2 ^ 31 by omega), cl _ (show 83 + 3 * p + 2 < 2 ^ 31 by omega), cl p (by omega), c_7]
        have hz7 : (upd (upd M.1 (83 + 3 * p) p0) (83 + 3 * p + 1) (0 : Int32)) 7 = M.1 7 := by rw [upd_n (by omega), upd_n (by omega)]
        have hz10 : (upd (upd (upd M.1 (83 + 3 * p) p0) (83 + 3 * p + 1) (0 : Int32)) (83 + 3 * p + 2) (M.1 7)) 10 = nI p := by rw [upd_n (by omega), upd_n (by omega), upd_n (by omega), e2]
        rw [hz7, hz10, nI_1]
        simp only [Option.bind_some]
        refine ⟨_, _, rfl, rfl, ?_, RelS_iff.mpr ⟨⟨RelSt.come hn.1 (show p < 20 by omega) e2 h1 h2, hn.2⟩, f3, hs, hp⟩⟩
        exact (upd_e (f := upd (upd (upd M.1 (83 + 3 * p) p0) (83 + 3 * p + 1) 0) (83 + 3 * p + 2) (M.1 7)) (v := nI (p + 1)) (show 10 = 10 from rfl)).symm
      · rw [if_neg h4, if_neg h4]
        exact ⟨_, _, rfl, rfl, rfl, H⟩
  · rw [if_neg h2, in_0 (.inr (by rw [z_lt]; rw [z_le] at h2; omega))]
    exact ⟨_, (-2, M), rfl, rfl, rfl, H⟩
theorem RelSt.sense {T : Nat} {R : Ru} {V : St} {z : Fn} (h : RelSt T R V z) {s' : Nat} (hs' : s' < 256) : RelSt T R (V.1, V.2.1, V.2.2.1, V.2.2.2.1, V.2.2.2.2.1, V.2.2.2.2.2.1, V.2.2.2.2.2.2.1, V.2.2.2.2.2.2.2.1, nI s', V.2.2.2.2.2.2.2.2.2) (upd z 11 (nI s')) := by
  obtain ⟨p, t, s, a1, a2, a3, b1, b2, b3, b4, b5, b6, c1, c2, c3, c4, c5, c6, c7, c8, n, hn, hs⟩ := h
  have e : ∀ k, k ≠ 11 → upd z 11 (nI s') k = z k := fun k hk => upd_n hk
  refine ⟨p, t, s', a1, a2, hs', b1, (e 10 (by omega)).trans b2, b3, (e 7 (by omega)).trans b4, rfl, upd_e rfl, fun j hj => (c1 j hj).trans (e j (by omega)).symm, ?_, ?_, ?_, fun j hj => (c5 j hj).trans (e _ (by omega)).symm, ?_, ?_, fun j hj => (c8 j hj).trans (e _ (by omega)).symm, n, (e 22 (by omega)).trans hn, ?_⟩
  · rw [e 0 (by omega), e 1 (by omega), e 2 (by omega), e 3 (by omega), e 4 (by omega), e 5 (by omega), e 6 (by omega)]; exact c2
  · rw [e 8 (by omega)]; exact c3
  · rw [e 9 (by omega), e 8 (by omega)]; exact c4
  · rw [e 16 (by omega), e 17 (by omega), e 18 (by omega), e 19 (by omega), e 20 (by omega), e 21 (by omega)]; exact c6
  · intro i hi
    have := c7 i hi
    rw [e (83 + 3 * i) (by omega), e (84 + 3 * i) (by omega), e (85 + 3 * i) (by omega)]
    exact this
  · obtain ⟨h1, h2, h3⟩ := hs
    refine ⟨h1, h2, fun N hN M hM hT => h3 N hN M hM (fun k hk => (hT k hk).trans (e _ (by omega)))⟩
theorem sens_tab : ∀ i, i < 4 → ∀ b, b < 2 → ∀ v, v < 2 → ∀ s, s < 256 → ((nI s &&& (((1 : Int32) <<< ((((2 : Int32) * nI i) + nI b) &&& 31)) ^^^ (-1 : Int32))) ||| (nI v <<< ((((2 : Int32) * nI i) + nI b) &&& 31))) = nI ((nI s + ((nI v - ((nI s >>> ((((2 : Int32) * nI i) + nI b) &&& 31)) &&& (1 : Int32))) <<< ((((2 : Int32) * nI i) + nI b) &&& 31))).toNatClampNeg) ∧ (nI s + ((nI v - ((nI s >>> ((((2 : Int32) * nI i) + nI b) &&& 31)) &&& (1 : Int32))) <<< ((((2 : Int32) * nI i) + nI b) &&& 31))) = nI ((nI s + ((nI v - ((nI s >>> ((((2 : Int32) * nI i) + nI b) &&& 31)) &&& (1 : Int32))) <<< ((((2 : Int32) * nI i) + nI b) &&& 31))).toNatClampNeg) ∧ (nI s + ((nI v - ((nI s >>> ((((2 : Int32) * nI i) + nI b) &&& 31)) &&& (1 : Int32))) <<< ((((2 : Int32) * nI i) + nI b) &&& 31))).toNatClampNeg < 256 := by decide +kernel
theorem nn {x : Int32} {n : Nat} (h : nI n ≤ x) (hn : n < 2 ^ 31) : ¬ x < 0 ∧ ¬ x < nI n := by
  rw [z_le, z_n hn] at h
  rw [z_lt, z_lt, z_0, z_n hn]
  exact ⟨by omega, by omega⟩
theorem gt_of {x : Int32} {n : Nat} (h : nI (n + 1) ≤ x) (hn : n + 1 < 2 ^ 31) : nI n < x := by
  rw [z_le, z_n hn] at h
  rw [z_lt, z_n (by omega)]
  omega
theorem nI_nlt' {a b : Nat} (h : a ≤ b) (hb : b < 2 ^ 31) : ¬ nI b < nI a := nI_nlt h hb
theorem st_sense {ρ : Nat → Ru} {RS : Nat → Prop} {Vp : Pd} {Vd : Rd} {Vn : St} {Vm : St} {Vh : Hb} {Vk0 : St} {Vk1 : St} {Vk2 : St} {Vk3 : St} {Vk4 : St} {Vk5 : St} {Vs0 : St} {Vs1 : St} {Vz : Fn} {M : Md} {N : Nat} (hN : 5000 ≤ N) (H : RelS ρ RS (Vp, Vd, Vn, Vm, Vh, Vk0, Vk1, Vk2, Vk3, Vk4, Vk5, Vs0, Vs1, Vz) M) (p0 : Int32) (p1 : Int32) (p2 : Int32) : ∃ (o1 : Int32 × St × Hb × St × St × St × St × St × St) (o2 : Int32 × Md), f_X5_sense Vn Vh Vk0 Vk1 Vk2 Vk3 Vk4 Vk5 p0 p1 p2 = some o1 ∧ f_X6_sense N M p0 p1 p2 = some o2 ∧ o1.1 = o2.1 ∧ RelS ρ RS (Vp, Vd, o1.2.1, Vm, o1.2.2.1, o1.2.2.2.1, o1.2.2.2.2.1, o1.2.2.2.2.2.1, o1.2.2.2.2.2.2.1, o1.2.2.2.2.2.2.2.1, o1.2.2.2.2.2.2.2.2, Vs0, Vs1, Vz) o2.2 := by
  obtain ⟨hn, hh, hs, hp⟩ := RelS_iff.mp H
  unfold f_X5_sense f_X6_sense f_X6_isSpot
  rcases pk_ix p0 (n := 4) (by decide) with hlt | hge | ⟨i, hi, rfl⟩
  · rw [if_pos hlt, in_0 (.inl hlt)]
    exact ⟨_, (-1, M), rfl, rfl, rfl, H⟩
  · rw [if_neg (nn hge (by decide)).1, if_pos (show (4 : Int32) ≤ p0 from hge), in_0 (.inr (show (3 : Int32) < p0 from gt_of (n := 3) hge (by decide)))]
    exact ⟨_, (-1, M), rfl, rfl, rfl, H⟩
  rw [if_neg (nI_pos (by omega)), if_neg (show ¬ (4 : Int32) ≤ nI i from nI_ge hi (by decide)), in_1 (nI_pos (by omega)) (show ¬ (3 : Int32) < nI i from nI_nlt (show i ≤ 3 by omega) (by decide))]
  simp only [Option.bind_some, zb, or_true, if_true]
  rw [if_neg (show ¬ (1 : Int32) = 0 by decide)]
  rcases pk_ix p1 (n := 2) (by decide) with hlt | hge | ⟨b, hb, rfl⟩
  · rw [if_pos hlt, in_0 (.inl hlt)]
    exact ⟨_, (-1, M), rfl, rfl, rfl, H⟩
  · rw [if_neg (nn hge (by decide)).1, if_neg (show ¬ p1 < (2 : Int32) from (nn hge (by decide)).2), in_0 (.inr (show (1 : Int32) < p1 from gt_of (n := 1) hge (by decide)))]
    exact ⟨_, (-1, M), rfl, rfl, rfl, H⟩
  rw [if_neg (nI_pos (by omega)), if_pos (show nI b < (2 : Int32) from nI_lt hb (by decide)), in_1 (nI_pos (by omega)) (show ¬ (1 : Int32) < nI b from nI_nlt (show b ≤ 1 by omega) (by decide))]
  simp only [Option.bind_some]
  rw [if_neg (show ¬ (1 : Int32) = 0 by decide)]
  have good : ∀ v, v < 2 → p2 = nI v → ∃ (o1 : Int32 × St × Hb × St × St × St × St × St × St) (o2 : Int32 × Md), b_X5_sense_32 Vn Vh Vk0 Vk1 Vk2 Vk3 Vk4 Vk5 (nI i) (nI b) p2 () = some o1 ∧ ((f_X6_in p2 (0 : Int32) (1 : Int32)).bind fun o7 => (if o7 = 0 then some ((-2 : Int32), M) else ((f_X6_record N M).bind fun o10 => some ((((o10.1 (Int32.toNatClampNeg (11 : Int32))) >>> ((((2 : Int32) * (nI i)) + (nI b)) &&& 31)) &&& (1 : Int32)), ((upd o10.1 (Int32.toNatClampNeg (11 : Int32)) ((o10.1 (Int32.toNatClampNeg (11 : Int32))) + ((p2 - (((o10.1 (Int32.toNatClampNeg (11 : Int32))) >>> ((((2 : Int32) * (nI i)) + (nI b)) &&& 31)) &&& (1 : Int32))) <<< ((((2 : Int32) * (nI i)) + (nI b)) &&& 31)))), o10.2.1, o10.2.2.1, o10.2.2.2.1, o10.2.2.2.2.1, o10.2.2.2.2.2.1, o10.2.2.2.2.2.2.1, o10.2.2.2.2.2.2.2.1, o10.2.2.2.2.2.2.2.2.1, o10.2.2.2.2.2.2.2.2.2.1, o10.2.2.2.2.2.2.2.2.2.2.1, o10.2.2.2.2.2.2.2.2.2.2.2.1, o10.2.2.2.2.2.2.2.2.2.2.2.2.1, o10.2.2.2.2.2.2.2.2.2.2.2.2.2))))) = some o2 ∧ o1.1 = o2.1 ∧ RelS ρ RS (Vp, Vd, o1.2.1, Vm, o1.2.2.1, o1.2.2.2.1, o1.2.2.2.2.1, o1.2.2.2.2.2.1, o1.2.2.2.2.2.2.1, o1.2.2.2.2.2.2.2.1, o1.2.2.2.2.2.2.2.2, Vs0, Vs1, Vz) o2.2 := by
    rintro v hv rfl
    obtain ⟨o, P, c, f1, f2, f3⟩ := r_record hN H
    obtain ⟨s, hs256, e1, e2⟩ := sns hn.1
    obtain ⟨s', t1, t2, t3⟩ : ∃ s', ((nI s &&& (((1 : Int32) <<< ((((2 : Int32) * nI i) + nI b) &&& 31)) ^^^ (-1 : Int32))) ||| (nI v <<< ((((2 : Int32) * nI i) + nI b) &&& 31))) = nI s' ∧ (nI s + ((nI v - ((nI s >>> ((((2 : Int32) * nI i) + nI b) &&& 31)) &&& (1 : Int32))) <<< ((((2 : Int32) * nI i) + nI b) &&& 31))) = nI s' ∧ s' < 256 := ⟨_, sens_tab i hi b hb v hv s hs256⟩
    unfold b_X5_sense_32 f_X4_complains f_X4_setComplaint
    rw [f1, f2, in_1 (nI_pos (by omega)) (show ¬ (1 : Int32) < nI v from nI_nlt (show v ≤ 1 by omega) (by decide)), c_11]
    simp only [Option.bind_some]
    rw [if_neg (show ¬ (1 : Int32) = 0 by decide), e1, e2, t1, t2]
    refine ⟨_, _, rfl, rfl, rfl, RelS_iff.mpr ⟨⟨RelSt.sense hn.1 t3, hn.2⟩, f3, hs, hp⟩⟩
  by_cases q0 : p2 = 0
  · rw [if_pos q0]
    exact good 0 (by decide) q0
  · rw [if_neg q0]
    by_cases q1 : p2 = 1
    · rw [if_pos q1]
      exact good 1 (by decide) q1
    · rw [if_neg q1]
      rcases pk_ix p2 (n := 2) (by decide) with hlt | hge | ⟨v, hv, rfl⟩
      · rw [in_0 (.inl hlt)]
        exact ⟨_, (-2, M), rfl, rfl, rfl, H⟩
      · rw [in_0 (.inr (show (1 : Int32) < p2 from gt_of (n := 1) hge (by decide)))]
        exact ⟨_, (-2, M), rfl, rfl, rfl, H⟩
      · have : v = 0 ∨ v = 1 := by omega
        rcases this with rfl | rfl
        · exact absurd rfl q0
        · exact absurd rfl q1
theorem st_wipe {ρ : Nat → Ru} {RS : Nat → Prop} {Vp : Pd} {Vd : Rd} {Vn : St} {Vm : St} {Vh : Hb} {Vk0 : St} {Vk1 : St} {Vk2 : St} {Vk3 : St} {Vk4 : St} {Vk5 : St} {Vs0 : St} {Vs1 : St} {Vz : Fn} {M : Md} {N : Nat} (hN : 5000 ≤ N) (H : RelS ρ RS (Vp, Vd, Vn, Vm, Vh, Vk0, Vk1, Vk2, Vk3, Vk4, Vk5, Vs0, Vs1, Vz) M) : ∃ (o1 : Int32 × Pd) (o2 : Int32 × Md), f_X5_wipe Vp = some o1 ∧ f_X6_wipe M = some o2 ∧ o1.1 = o2.1 ∧ RelS ρ RS (o1.2, Vd, Vn, Vm, Vh, Vk0, Vk1, Vk2, Vk3, Vk4, Vk5, Vs0, Vs1, Vz) o2.2 := by
  obtain ⟨hn, hh, hs, n, hp1, hp2, hp3, hp4⟩ := RelS_iff.mp H
  exact ⟨_, _, rfl, rfl, hp2.trans hp3.symm, RelS_iff.mpr ⟨hn, hh, hs, 0, Nat.zero_le _, rfl, rfl, fun k hk => absurd hk (Nat.not_lt_zero _)⟩⟩
theorem st_undo {ρ : Nat → Ru} {RS : Nat → Prop} {Vp : Pd} {Vd : Rd} {Vn : St} {Vm : St} {Vh : Hb} {Vk0 : St} {Vk1 : St} {Vk2 : St} {Vk3 : St} {Vk4 : St} {Vk5 : St} {Vs0 : St} {Vs1 : St} {Vz : Fn} {M : Md} {N : Nat} (hN : 5000 ≤ N) (H : RelS ρ RS (Vp, Vd, Vn, Vm, Vh, Vk0, Vk1, Vk2, Vk3, Vk4, Vk5, Vs0, Vs1, Vz) M) : ∃ (o1 : Int32 × St × Hb) (o2 : Int32 × Md), f_X5_undo Vn Vh Vk0 Vk1 Vk2 Vk3 Vk4 Vk5 = some o1 ∧ f_X6_undo N M = some o2 ∧ o1.1 = o2.1 ∧ RelS ρ RS (Vp, Vd, o1.2.1, Vm, o1.2.2, Vk0, Vk1, Vk2, Vk3, Vk4, Vk5, Vs0, Vs1, Vz) o2.2 := by
  obtain ⟨hn, ⟨l, h, hl, hh, e1, e2, e3, hj⟩, hs, hp⟩ := RelS_iff.mp H
  unfold f_X5_undo f_X6_undo
  by_cases h0 : h = 0
  · subst h0
    rw [if_pos (show Vh.2 = 0 from e2), if_pos (show M.2.2.2.2.1 = 0 from e3)]
    exact ⟨_, _, rfl, rfl, rfl, H⟩
  have hne : ¬ nI h = 0 := nI_ne0 (by omega) (by omega)
  rw [if_neg (by rw [e2]; exact hne), if_neg (by rw [e3]; exact hne)]
  have em : nI h - (1 : Int32) = nI (h - 1) := by
    have := nI_pred (h - 1)
    rw [show h - 1 + 1 = h from by omega] at this
    exact this
  obtain ⟨C, hC⟩ : ∃ C, f_X4_copy Vn (KK Vk0 Vk1 Vk2 Vk3 Vk4 Vk5 l) = some C := ⟨_, rfl⟩
  have ht : f_X0_takeBack Vh Vk0 Vk1 Vk2 Vk3 Vk4 Vk5 Vn = some ((nI ((l + 5) % 6), nI (h - 1)), C) := by
    unfold f_X0_takeBack b_X0_takeBack_31
    rw [e1, e2, em]
    have hc : l = 0 ∨ l = 1 ∨ l = 2 ∨ l = 3 ∨ l = 4 ∨ l = 5 := by omega
    rcases hc with rfl | rfl | rfl | rfl | rfl | rfl
    · rw [if_pos (by decide), show f_X4_copy Vn Vk0 = some C from hC]; rfl
    · rw [if_neg (by decide), if_pos (by decide), show f_X4_copy Vn Vk1 = some C from hC]; rfl
    · rw [if_neg (by decide), if_neg (by decide), if_pos (by decide), show f_X4_copy Vn Vk2 = some C from hC]; rfl
    · rw [if_neg (by decide), if_neg (by decide), if_neg (by decide), if_pos (by decide), show f_X4_copy Vn Vk3 = some C from hC]; rfl
    · rw [if_neg (by decide), if_neg (by decide), if_neg (by decide), if_neg (by decide), if_pos (by decide), show f_X4_copy Vn Vk4 = some C from hC]; rfl
    · rw [if_neg (by decide), if_neg (by decide), if_neg (by decide), if_neg (by decide), if_neg (by decide), if_pos (by decide), show f_X4_copy Vn Vk5 = some C from hC]; rfl
  rw [ht, q_undo22 hN M (M.1, M.2.1, M.2.2.1, M.2.2.2.1, M.2.2.2.2.1 - (1 : Int32), M.2.2.2.2.2) (h := h - 1) (by omega) (by show M.2.2.2.2.1 - (1 : Int32) = _; rw [e3, em])]
  obtain ⟨g1, g2⟩ := hj 0 (by omega)
  rw [show (l + 12 - 0) % 6 = l from by omega] at g1 g2
  obtain ⟨r1, r2⟩ := RelSt.copy g1 hC
  refine ⟨_, _, rfl, rfl, rfl, RelS_iff.mpr ⟨⟨?_, ?_⟩, ⟨(l + 5) % 6, h - 1, by omega, by omega, rfl, rfl, ?_, fun j hj' => ?_⟩, hs, hp⟩⟩
  · show RelSt 99999 (ρ C.2.2.2.2.2.2.1) C _
    rw [r2]
    refine r1.cells fun x hx => ?_
    show cpf M.1 M.2.1 0 ((h - 1) * 173) 173 x = M.2.1 ((h - 1 - 0) * 173 + x)
    rw [cpf_in (by omega) (by omega)]
    congr 1
  · show RS C.2.2.2.2.2.2.1
    rw [r2]; exact g2
  · show M.2.2.2.2.1 - (1 : Int32) = _
    rw [e3, em]
  · obtain ⟨g1, g2⟩ := hj (j + 1) (by omega)
    rw [show (l + 12 - (j + 1)) % 6 = ((l + 5) % 6 + 12 - j) % 6 from by omega] at g1 g2
    refine ⟨g1.cells fun x hx => ?_, g2⟩
    show M.2.1 ((h - 1 - 1 - j) * 173 + x) = M.2.1 ((h - 1 - (j + 1)) * 173 + x)
    rw [show h - 1 - 1 - j = h - 1 - (j + 1) from by omega]
