theorem lookedAt_ok {R : Ru} {s n N : Nat} (hN : 5000 ≤ N) (hs : s < 256) (hn : 1 ≤ n ∧ n ≤ 60) (en : R.2.2.2.2.1 = nI n) (ht : treeOK R n) : f_X3_lookedAt N R (nI s) = some (nI (lk R (hv R (nI s) n) n (n - 1))) := by
  obtain ⟨m, h1, h2⟩ := holding_ok hN hs hn.2 en (fun i hi => tree_node hn.2 ht hi)
  have e : R.2.2.2.2.1 - (1 : Int32) = nI (n - 1) := by
    rw [en]
    have := nI_pred (n - 1)
    rw [show n - 1 + 1 = n from by omega] at this
    exact this
  have e2 : (if (60 : Int32) < R.2.2.2.2.1 then (60 : Int32) else R.2.2.2.2.1) = nI n := by
    rw [en, if_neg (show ¬ (60 : Int32) < nI n from nI_nlt (a := 60) hn.2 (by decide))]
  unfold f_X3_lookedAt
  rw [h1, Option.bind_some, e, e2]
  have hpos : 1 ≤ lk R (hv R (nI s) n) n (n - 1) := by rw [lk_st R _ n (n - 1) (by omega)]; exact lk_pos _ _ _ _
  obtain ⟨o, g1, g2⟩ := lp_m (body := b_X3_lookedAt_29 N R (nI s)) (P := fun k st => k ≤ n ∧ ∃ L : Int64, st = (m, L, nI k - 1) ∧ pcn 8 L.toBitVec.toNat + sm (fun j => lk R (hv R (nI s) n) n j - 1) L.toBitVec.toNat k = lk R (hv R (nI s) n) n (n - 1) ∧ ∀ j, bt L.toBitVec.toNat j = 1 → j = n - 1 ∨ ∃ p, k ≤ p ∧ p < n ∧ kid R p j) (Q := fun o => o = nI (lk R (hv R (nI s) n) n (n - 1))) (by
    rintro k st ⟨hk, L, rfl, hsum, hbits⟩
    by_cases k0 : k = 0
    · subst k0
      refine .inl ⟨nI (lk R (hv R (nI s) n) n (n - 1)), fun K => ?_, rfl⟩
      unfold b_X3_lookedAt_29
      refine (if_pos (show nI 0 - 1 < 0 by decide)).trans ?_
      dsimp only
      rw [bitCount_ok, Option.bind_some]
      have : sm (fun j => lk R (hv R (nI s) n) n j - 1) L.toBitVec.toNat 0 = 0 := rfl
      rw [this, Nat.add_zero] at hsum
      rw [hsum]
    · obtain ⟨i, rfl⟩ : ∃ i, k = i + 1 := ⟨k - 1, by omega⟩
      have ei : nI (i + 1) - 1 = nI i := nI_pred i
      rw [ei]
      have b01 : bt L.toBitVec.toNat i = 0 ∨ bt L.toBitVec.toNat i = 1 := by unfold bt; omega
      have hs1 : sm (fun j => lk R (hv R (nI s) n) n j - 1) L.toBitVec.toNat (i + 1) = sm (fun j => lk R (hv R (nI s) n) n j - 1) L.toBitVec.toNat i + bt L.toBitVec.toNat i * (lk R (hv R (nI s) n) n i - 1) := rfl
      have b1 : ∀ K, b_X3_lookedAt_29 N R (nI s) K (m, L, nI i) = ((f_X3_isIn R L (nI i)).bind fun o4 => (if o4 = 0 then K (m, L, nI i - 1) else ((f_X3_lookedAtFrom R (nI i) m).bind fun o7 => K (m, (L ||| o7), nI i - 1)))) := by
        intro K
        unfold b_X3_lookedAt_29 b_X3_lookedAt_57
        exact if_neg (show ¬ nI i < 0 from nI_pos (by omega))
      rcases b01 with b | b
      · refine .inr ⟨i, (m, L, nI i - 1), by omega, ⟨by omega, L, rfl, ?_, fun j hj => ?_⟩, fun K => ?_⟩
        · rw [hs1, b, Nat.zero_mul, Nat.add_zero] at hsum; exact hsum
        · rcases hbits j hj with z | ⟨p, z1, z2, z3⟩
          · exact .inl z
          · exact .inr ⟨p, by omega, z2, z3⟩
        · rw [b1, isIn_ok R L (show i < 60 by omega), if_neg (show ¬ L.toBitVec.toNat / 2 ^ i % 2 = 1 from fun z => by unfold bt at b; omega), Option.bind_some, if_pos rfl]
      · obtain ⟨q, f1, f2, f3⟩ := from_ok (m := m) (L := L) (s := s) (i := i) hn.2 ht (by omega) h2 (by
          intro c hc hkid
          by_cases z : bt L.toBitVec.toNat c = 0
          · exact z
          · exfalso
            rcases hbits c (by unfold bt at z ⊢; omega) with w | ⟨p, w1, w2, w3⟩
            · omega
            · have := ht.2 i p c (by omega) w2 (by omega) hkid w3
              omega)
        refine .inr ⟨i, (m, L ||| q, nI i - 1), by omega, ⟨by omega, L ||| q, rfl, ?_, fun j hj => ?_⟩, fun K => ?_⟩
        · rw [hs1, b, Nat.one_mul] at hsum
          omega
        · rcases f3 j hj with w | w
          · rcases hbits j w with z | ⟨p, z1, z2, z3⟩
            · exact .inl z
            · exact .inr ⟨p, by omega, z2, z3⟩
          · exact .inr ⟨i, Nat.le_refl _, by omega, w⟩
        · rw [b1, isIn_ok R L (show i < 60 by omega), if_pos (show L.toBitVec.toNat / 2 ^ i % 2 = 1 from b), Option.bind_some, if_neg (show ¬ (1 : Int32) = 0 by decide), f1, Option.bind_some])
    N n (m, ((1 : Int64) <<< (Int32.toInt64 (nI (n - 1)) &&& 63)), nI n - 1) (by omega) (by
    refine ⟨Nat.le_refl _, _, rfl, ?_, fun j hj => .inl ?_⟩
    · have z : bt 0 (n - 1) = 0 := by unfold bt; rw [Nat.zero_div]
      have p1 := pcn_set 8 (n - 1) 0 (by omega) z
      have p2 := sm_set (W := fun j => lk R (hv R (nI s) n) n j - 1) z n
      rw [Nat.zero_add] at p1 p2
      rw [one_shl (show n - 1 < 60 by omega), p1, p2, pcn_0, sm_0, if_pos (show n - 1 < n by omega)]
      omega
    · rw [one_shl (show n - 1 < 60 by omega)] at hj
      have z : bt 0 (n - 1) = 0 := by unfold bt; rw [Nat.zero_div]
      have p1 := bt_set z j
      rw [Nat.zero_add] at p1
      rw [p1] at hj
      by_cases c : j = n - 1
      · exact c
      · rw [if_neg c] at hj
        unfold bt at hj
        rw [Nat.zero_div] at hj
        exact absurd hj (by decide))
  rw [← g2]
  exact g1
