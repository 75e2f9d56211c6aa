/-! put: characters from a long -/
theorem sh8 (w : Int64) : (Int64.toUInt64 w >>> ((Int32.toInt64 (8 : Int32)).toUInt64 &&& Int64.toUInt64 63)).toInt64.toBitVec.toNat = w.toBitVec.toNat / 256 := by
  have e : (Int64.toUInt64 w >>> ((Int32.toInt64 (8 : Int32)).toUInt64 &&& Int64.toUInt64 63)).toInt64.toBitVec = w.toBitVec >>> 8 := by
    exact UInt64.toBitVec_shiftRight _ _
  rw [e, BitVec.toNat_ushiftRight, Nat.shiftRight_eq_div_pow]
theorem and255 (w : Int64) : w &&& (255 : Int64) = Int64.ofNat (w.toBitVec.toNat % 256) := by
  apply Int64.toBitVec_inj.mp
  apply BitVec.eq_of_toNat_eq
  rw [Int64.toBitVec_and, BitVec.toNat_and, show (255 : Int64).toBitVec.toNat = 2 ^ 8 - 1 from by decide, Nat.and_two_pow_sub_one_eq_mod]
  show _ = (BitVec.ofNat 64 (w.toBitVec.toNat % 256)).toNat
  rw [BitVec.toNat_ofNat]
  omega
theorem byte_tab : ∀ b, b < 256 → f_X6_in (Int64.toInt32 (Int64.ofNat b)) 33 126 = some (if ¬ lg_cmp (Int64.ofNat b) (33 : Int64) < 0 ∧ lg_cmp (Int64.ofNat b) (126 : Int64) ≤ 0 then 1 else 0) := by decide +kernel
theorem cmp0 (w : Int64) : lg_cmp w 0 = 0 ↔ w.toBitVec.toNat = 0 := by
  have h : w = 0 ↔ w.toBitVec.toNat = 0 := by
    constructor
    · rintro rfl; decide
    · intro e
      apply Int64.toBitVec_inj.mp
      apply BitVec.eq_of_toNat_eq
      rw [e]; decide
  rw [← h]
  unfold lg_cmp
  by_cases h1 : w > 0
  · rw [if_pos h1]
    exact ⟨fun e => absurd e (by decide), fun e => by rw [e] at h1; exact absurd h1 (by decide)⟩
  · rw [if_neg h1]
    by_cases h2 : w = 0
    · rw [if_pos h2]; exact ⟨fun _ => h2, fun _ => rfl⟩
    · rw [if_neg h2]
      exact ⟨fun e => absurd e (by decide), fun e => absurd e h2⟩
theorem count_ok {N : Nat} (hN : 5000 ≤ N) (V : Pd) (M : Md) (p0 : Int64) : ∃ o : Int32, f_X1_charactersIn N V p0 = some o ∧ ((o = 0 ∧ f_X6_put N M p0 = some (-2, M)) ∨ ∃ k : Nat, 1 ≤ k ∧ k ≤ 8 ∧ o = nI k ∧ f_X6_put N M p0 = b_X6_put_49 N M p0 (nI k, 1)) := by
  have key : ∀ (r : Nat), r ≤ 8 → ∀ (N1 N2 : Nat) (w : Int64), r < N1 → r + 1 < N2 → w.toBitVec.toNat < 256 ^ r → ∃ o : Int32, lp (b_X1_charactersIn_5 N V p0) N1 (w, nI (8 - r)) = some o ∧ ((o = 0 ∧ lp (b_X6_put_8 N M p0) N2 (nI (8 - r), w, 1) = some (-2, M)) ∨ ∃ k : Nat, 1 ≤ k ∧ k ≤ 8 ∧ o = nI k ∧ lp (b_X6_put_8 N M p0) N2 (nI (8 - r), w, 1) = b_X6_put_49 N M p0 (nI k, 1)) := by
    intro r
    induction r with
    | zero =>
      intro _ N1 N2 w h1 h2 hw
      obtain ⟨m1, rfl⟩ : ∃ m, N1 = m + 1 := ⟨N1 - 1, by omega⟩
      obtain ⟨m2, rfl⟩ : ∃ m, N2 = m + 1 := ⟨N2 - 1, by omega⟩
      have hz : lg_cmp w 0 = 0 := (cmp0 w).mpr (by omega)
      refine ⟨nI 8, ?_, .inr ⟨8, by omega, by omega, rfl, ?_⟩⟩
      · show b_X1_charactersIn_5 N V p0 _ _ = _
        unfold b_X1_charactersIn_5 b_X1_charactersIn_56
        rw [if_pos (show (8 : Int32) ≤ nI (8 - 0) by decide)]
      · show b_X6_put_8 N M p0 _ _ = _
        unfold b_X6_put_8
        exact if_pos hz
    | succ r ih =>
      intro hr N1 N2 w h1 h2 hw
      obtain ⟨m1, rfl⟩ : ∃ m, N1 = m + 1 := ⟨N1 - 1, by omega⟩
      obtain ⟨m2, rfl⟩ : ∃ m, N2 = m + 1 := ⟨N2 - 1, by omega⟩
      have hk : ¬ (8 : Int32) ≤ nI (8 - (r + 1)) := nI_ge (show 8 - (r + 1) < 8 by omega) (by decide)
      have en : nI (8 - (r + 1)) + (1 : Int32) = nI (8 - r) := by rw [nI_1, show 8 - (r + 1) + 1 = 8 - r from by omega]
      by_cases hz : lg_cmp w 0 = 0
      · refine ⟨nI (8 - (r + 1)), ?_, ?_⟩
        · show b_X1_charactersIn_5 N V p0 _ _ = _
          unfold b_X1_charactersIn_5 b_X1_charactersIn_56
          refine (if_neg hk).trans ?_
          exact if_pos hz
        · by_cases k0 : 8 - (r + 1) = 0
          · refine .inl ⟨by rw [k0]; rfl, ?_⟩
            show b_X6_put_8 N M p0 _ _ = _
            unfold b_X6_put_8
            refine (if_pos hz).trans ?_
            unfold b_X6_put_49 b_X6_put_58
            exact if_pos (show nI (8 - (r + 1)) = 0 by rw [k0]; rfl)
          · refine .inr ⟨8 - (r + 1), by omega, by omega, rfl, ?_⟩
            show b_X6_put_8 N M p0 _ _ = _
            unfold b_X6_put_8
            exact if_pos hz
      · have hb := byte_tab (w.toBitVec.toNat % 256) (by omega)
        rw [← and255] at hb
        have cls : ∀ K, b_X1_charactersIn_5 N V p0 K (w, nI (8 - (r + 1))) = (if (lg_cmp (w &&& (255 : Int64)) (33 : Int64)) < 0 then some 0 else (if (lg_cmp (w &&& (255 : Int64)) (126 : Int64)) ≤ 0 then K ((Int64.toUInt64 w >>> ((Int32.toInt64 (8 : Int32)).toUInt64 &&& Int64.toUInt64 63)).toInt64, nI (8 - r)) else some 0)) := by
          intro K
          unfold b_X1_charactersIn_5 b_X1_charactersIn_43
          refine (if_neg hk).trans ?_
          refine (if_neg hz).trans ?_
          rw [en]
        have rf : ∀ K, b_X6_put_8 N M p0 K (nI (8 - (r + 1)), w, 1) = K (nI (8 - r), (Int64.toUInt64 w >>> ((Int32.toInt64 (8 : Int32)).toUInt64 &&& Int64.toUInt64 63)).toInt64, (if ¬ lg_cmp (w &&& (255 : Int64)) (33 : Int64) < 0 ∧ lg_cmp (w &&& (255 : Int64)) (126 : Int64) ≤ 0 then 1 else 0)) := by
          intro K
          unfold b_X6_put_8
          refine (if_neg hz).trans ?_
          refine (if_neg (show ¬ (1 : Int32) = 0 by decide)).trans ?_
          dsimp only
          rw [hb, Option.bind_some, en]
        have bad : (if ¬ lg_cmp (w &&& (255 : Int64)) (33 : Int64) < 0 ∧ lg_cmp (w &&& (255 : Int64)) (126 : Int64) ≤ 0 then (1 : Int32) else 0) = 0 → lp (b_X6_put_8 N M p0) (m2 + 1) (nI (8 - (r + 1)), w, 1) = some (-2, M) := by
          intro e
          show b_X6_put_8 N M p0 (lp (b_X6_put_8 N M p0) m2) _ = _
          rw [rf, e]
          obtain ⟨m3, rfl⟩ : ∃ m, m2 = m + 1 := ⟨m2 - 1, by omega⟩
          show b_X6_put_8 N M p0 _ _ = _
          have h49 : b_X6_put_49 N M p0 (nI (8 - r), 0) = some (-2, M) := by
            unfold b_X6_put_49 b_X6_put_58
            dsimp only
            rw [if_pos rfl, ite_self]
          unfold b_X6_put_8
          dsimp only
          rw [h49, if_pos rfl, ite_self]
        by_cases q1 : lg_cmp (w &&& (255 : Int64)) (33 : Int64) < 0
        · refine ⟨0, ?_, .inl ⟨rfl, bad (if_neg (fun q => q.1 q1))⟩⟩
          show b_X1_charactersIn_5 N V p0 _ _ = _
          rw [cls, if_pos q1]
        · by_cases q2 : lg_cmp (w &&& (255 : Int64)) (126 : Int64) ≤ 0
          · obtain ⟨o, x1, x2⟩ := ih (by omega) m1 m2 (Int64.toUInt64 w >>> ((Int32.toInt64 (8 : Int32)).toUInt64 &&& Int64.toUInt64 63)).toInt64 (by omega) (by omega) (by
              rw [sh8, Nat.div_lt_iff_lt_mul (by decide)]
              rw [Nat.pow_succ] at hw
              exact hw)
            have e2 : lp (b_X6_put_8 N M p0) (m2 + 1) (nI (8 - (r + 1)), w, 1) = lp (b_X6_put_8 N M p0) m2 (nI (8 - r), (Int64.toUInt64 w >>> ((Int32.toInt64 (8 : Int32)).toUInt64 &&& Int64.toUInt64 63)).toInt64, 1) := by
              show b_X6_put_8 N M p0 (lp (b_X6_put_8 N M p0) m2) _ = _
              rw [rf, if_pos ⟨q1, q2⟩]
            rw [e2]
            refine ⟨o, ?_, x2⟩
            show b_X1_charactersIn_5 N V p0 (lp (b_X1_charactersIn_5 N V p0) m1) _ = _
            rw [cls, if_neg q1, if_pos q2]
            exact x1
          · refine ⟨0, ?_, .inl ⟨rfl, bad (if_neg (fun q => q2 q.2))⟩⟩
            show b_X1_charactersIn_5 N V p0 _ _ = _
            rw [cls, if_neg q1, if_neg q2]
  have := key 8 (Nat.le_refl _) N N p0 (by omega) (by omega) (Nat.lt_of_lt_of_le p0.toBitVec.isLt (by decide))
  rw [Nat.sub_self] at this
  exact this
theorem st_put {ρ : Nat → Ru} {RS : Nat → Prop} {Vp : Pd} {Vd : Rd} {Vn : St} {Vm : St} {Vh : Hb} {Vk0 : St} {Vk1 : St} {Vk2 : St} {Vk3 : St} {Vk4 : St} {Vk5 : St} {Vs0 : St} {Vs1 : St} {Vz : Fn} {M : Md} {N : Nat} (hN : 5000 ≤ N) (H : RelS ρ RS (Vp, Vd, Vn, Vm, Vh, Vk0, Vk1, Vk2, Vk3, Vk4, Vk5, Vs0, Vs1, Vz) M) (p0 : Int64) : ∃ (o1 : Int32 × Pd) (o2 : Int32 × Md), f_X5_put N Vp p0 = some o1 ∧ f_X6_put N M p0 = some o2 ∧ o1.1 = o2.1 ∧ RelS ρ RS (o1.2, Vd, Vn, Vm, Vh, Vk0, Vk1, Vk2, Vk3, Vk4, Vk5, Vs0, Vs1, Vz) o2.2 := by
  obtain ⟨hn, hh, hs, n, hp1, hp2, hp3, hp4⟩ := RelS_iff.mp H
  obtain ⟨o, c1, c2⟩ := count_ok (M := M) hN Vp p0
  unfold f_X5_put
  rw [c1, Option.bind_some]
  rcases c2 with ⟨rfl, c2⟩ | ⟨k, k1, k8, rfl, c2⟩
  · rw [if_pos rfl]; exact ⟨_, _, rfl, c2, rfl, H⟩
  rw [if_neg (nI_ne0 (by omega) (by omega)), c2, hp2, show (60 : Int32) - nI n = nI (60 - n) from pk_sub (a := 60) hp1]
  have r49 : b_X6_put_49 N M p0 (nI k, 1) = (if nI (n + k) ≤ (60 : Int32) then lp (b_X6_put_80 N M p0) N (M, nI k - (1 : Int32)) else some ((-4 : Int32), M)) := by
    unfold b_X6_put_49
    refine (if_neg (show ¬ nI k = 0 from nI_ne0 (by omega) (by omega))).trans ?_
    refine (if_neg (show ¬ (1 : Int32) = 0 by decide)).trans ?_
    dsimp only
    rw [hp3, nI_add]
  rw [r49]
  by_cases g : k ≤ 60 - n
  · rw [if_pos (nI_le g (by omega)), if_pos (show nI (n + k) ≤ (60 : Int32) from nI_le (show n + k ≤ 60 by omega) (by decide))]
    obtain ⟨o1, o2, g1, g2, V1, A, rfl, rfl, e1, e2⟩ := lp_2 (b1 := b_X1_append_5 N Vp p0 (nI k)) (b2 := b_X6_put_80 N M p0)
      (P := fun r s1 s2 => r ≤ k ∧ ∃ (V1 : Pd) (A : Fn), s1 = (V1, nI r - (1 : Int32)) ∧ s2 = ((M.1, M.2.1, M.2.2.1, M.2.2.2.1, M.2.2.2.2.1, M.2.2.2.2.2.1, A, nI (n + (k - r)), M.2.2.2.2.2.2.2.2), nI r - (1 : Int32)) ∧ V1.2 = nI (n + (k - r)) ∧ ∀ x, x < n + (k - r) → V1.1 x = A x)
      (Q := fun o1 o2 => ∃ (V1 : Pd) (A : Fn), o1 = V1 ∧ o2 = (nI (n + k), (M.1, M.2.1, M.2.2.1, M.2.2.2.1, M.2.2.2.2.1, M.2.2.2.2.2.1, A, nI (n + k), M.2.2.2.2.2.2.2.2)) ∧ V1.2 = nI (n + k) ∧ ∀ x, x < n + k → V1.1 x = A x) (by
      rintro r s1 s2 ⟨hr, V1, A, rfl, rfl, e1, e2⟩
      by_cases r0 : r = 0
      · subst r0
        refine .inl ⟨V1, _, fun K => ?_, fun K => ?_, V1, A, rfl, rfl, by rw [e1, Nat.sub_zero], fun x hx => e2 x (by omega)⟩
        · unfold b_X1_append_5 b_X1_append_57
          exact if_pos (show nI 0 - (1 : Int32) < 0 by decide)
        · unfold b_X6_put_80
          refine (if_pos (show nI 0 - (1 : Int32) < 0 by decide)).trans ?_
          dsimp only
          rw [Nat.sub_zero]
      · have er : nI r - (1 : Int32) = nI (r - 1) := by
          have := nI_pred (r - 1); rw [show r - 1 + 1 = r from by omega] at this; exact this
        rw [er]
        have en : nI (n + (k - r)) + (1 : Int32) = nI (n + (k - (r - 1))) := by rw [nI_1, show n + (k - r) + 1 = n + (k - (r - 1)) from by omega]
        have hnn : ¬ nI (r - 1) < 0 := nI_pos (by omega)
        refine .inr ⟨r - 1, ((upd V1.1 (n + (k - r)) (vp_nar .char ((Int32.toUInt32 (Int64.toInt32 ((Int64.toUInt64 p0 >>> ((Int32.toInt64 ((8 : Int32) * nI (r - 1))).toUInt64 &&& Int64.toUInt64 63)).toInt64 &&& (255 : Int64))) % 65536).toInt32)), nI (n + (k - (r - 1)))), nI (r - 1) - (1 : Int32)), _, by omega, ⟨by omega, _, upd A (n + (k - r)) (vp_nar .char ((Int32.toUInt32 (Int64.toInt32 ((Int64.toUInt64 p0 >>> ((Int32.toInt64 ((8 : Int32) * nI (r - 1))).toUInt64 &&& Int64.toUInt64 63)).toInt64 &&& (255 : Int64))) % 65536).toInt32)), rfl, rfl, rfl, fun x hx => ?_⟩, fun K => ?_, fun K => ?_⟩
        · show upd V1.1 _ _ x = upd A _ _ x
          by_cases ex : x = n + (k - r)
          · rw [upd_e ex, upd_e ex]
          · rw [upd_n ex, upd_n ex]; exact e2 x (by omega)
        · unfold b_X1_append_5
          refine (if_neg hnn).trans ?_
          refine (if_neg (show ¬ (60 : Int32) ≤ V1.2 by rw [e1]; exact nI_ge (show n + (k - r) < 60 by omega) (by decide))).trans ?_
          dsimp only
          rw [e1, ix_nI (show n + (k - r) < 60 by omega) (by decide), cl _ (show n + (k - r) < 2 ^ 31 by omega), en]
        · unfold b_X6_put_80
          refine (if_neg hnn).trans ?_
          dsimp only
          rw [ix_nI (show n + (k - r) < 60 by omega) (by decide), cl _ (show n + (k - r) < 2 ^ 31 by omega), en])
      k N N (Vp, nI k - (1 : Int32)) (M, nI k - (1 : Int32)) (by omega) (by omega) ⟨Nat.le_refl _, Vp, M.2.2.2.2.2.2.1, rfl, by rw [Nat.sub_self, Nat.add_zero, ← hp3], by rw [Nat.sub_self]; exact hp2, fun x hx => hp4 x (by omega)⟩
    unfold f_X1_append
    rw [g1, Option.bind_some, g2]
    exact ⟨_, _, rfl, rfl, e1, RelS_iff.mpr ⟨hn, hh, hs, n + k, by omega, e1, rfl, e2⟩⟩
  · rw [if_neg (nI_ge (by omega) (by omega)), if_neg (show ¬ nI (n + k) ≤ (60 : Int32) from nI_ge (show 60 < n + k by omega) (by omega))]
    exact ⟨_, _, rfl, rfl, rfl, H⟩
