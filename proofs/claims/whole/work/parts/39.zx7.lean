/-! a text without a fault is a text that can be read -/
theorem fault_one {N i m wa d : Nat} {V : Pd} (hi : i < m) (hm : m ≤ 60) (e1 : V.2 = nI m) (hw : wa = 0 ∨ wa = 1) (hd : d ≤ 60) :
    (∀ K, b_X1_findFault_6 N V K (nI wa, nI d, nI i) = some (nI i)) ∨ (∃ wa' d', grs (V.1 i) wa d = some (wa', d') ∧ (wa' = 0 ∨ wa' = 1) ∧ d' ≤ d + 1 ∧ ∀ K, b_X1_findFault_6 N V K (nI wa, nI d, nI i) = K (nI wa', nI d', nI (i + 1))) := by
  have a1 : ∀ (w d : Int32) K, b_X1_findFault_6 N V K (w, d, nI i) = (if w = 0 then ((f_X1_followsPart V (V.1 i) d).bind fun o11 => (if o11 = 0 then b_X1_findFault_54 N V (nI i) else b_X1_findFault_56 N V K (w, d, nI i, V.1 i))) else ((f_X1_beginsPart V (V.1 i)).bind fun o14 => (if o14 = 0 then b_X1_findFault_54 N V (nI i) else b_X1_findFault_56 N V K (w, d, nI i, V.1 i)))) := by
    intro w d K
    unfold b_X1_findFault_6
    dsimp only
    rw [if_neg (show ¬ V.2 ≤ nI i by rw [e1]; exact nI_ge hi (by omega)), if_neg (show ¬ (60 : Int32) ≤ nI i from nI_ge (show i < 60 by omega) (by decide)), ix_nI (show i < 60 by omega) (by decide), cl i (by omega)]
  obtain ⟨c, hc⟩ : ∃ c, V.1 i = c := ⟨_, rfl⟩
  rw [hc] at a1 ⊢
  simp only [a1]
  unfold f_X1_followsPart f_X1_beginsPart b_X1_followsPart_22 b_X1_followsPart_26 b_X1_followsPart_27 b_X1_beginsPart_20 b_X1_beginsPart_25 b_X1_findFault_54 b_X1_findFault_56 b_X1_findFault_98 b_X1_findFault_99
  simp only [nI_1, letr, zb, true_or, or_true, if_true]
  have k1 : ¬ (1 : Int32) = 0 := by decide
  have n0 : nI 0 = 0 := nI_0
  have n1 : nI 1 = 1 := by decide
  by_cases c40 : c = 40
  · subst c40
    rcases hw with rfl | rfl
    · left; intro K; rfl
    · right; exact ⟨1, d + 1, rfl, .inr rfl, Nat.le_refl _, fun K => by simp [n1, k1]⟩
  by_cases c33 : c = 33
  · subst c33
    rcases hw with rfl | rfl
    · left; intro K; rfl
    · right; exact ⟨1, d, rfl, .inr rfl, by omega, fun K => by simp [n1, k1]⟩
  by_cases c41 : c = 41
  · subst c41
    rcases hw with rfl | rfl
    · by_cases h0 : d = 0
      · subst h0
        left; intro K; rfl
      · obtain ⟨e, rfl⟩ : ∃ e, d = e + 1 := ⟨d - 1, by omega⟩
        right
        refine ⟨0, e, ?_, .inl rfl, by omega, fun K => ?_⟩
        · unfold grs
          rw [if_neg (by decide), if_neg (by decide), if_pos rfl, if_pos ⟨rfl, by omega⟩, Nat.add_sub_cancel]
        · have hp : ¬ nI (e + 1) ≤ 0 := nI_nle (by omega) (by omega)
          simp [n0, hp, nI_pred]
    · left
      have : f_X6_isLetter 41 = some 0 := by decide
      intro K; simp [this, n1, k1]
  by_cases c38 : c = 38
  · subst c38
    rcases hw with rfl | rfl
    · right; exact ⟨1, d, rfl, .inr rfl, by omega, fun K => by simp [n0, n1]⟩
    · left
      have : f_X6_isLetter 38 = some 0 := by decide
      intro K; simp [this, n1, k1]
  by_cases c124 : c = 124
  · subst c124
    rcases hw with rfl | rfl
    · right; exact ⟨1, d, rfl, .inr rfl, by omega, fun K => by simp [n0, n1]⟩
    · left
      have : f_X6_isLetter 124 = some 0 := by decide
      intro K; simp [this, n1, k1]
  · rcases hw with rfl | rfl
    · left; intro K; simp [n0, c40, c33, c41, c38, c124]
    · rcases letr01 c with h | h
      · left; intro K; simp [n1, k1, c40, c33, c41, c38, c124, h]
      · right
        refine ⟨0, d, ?_, .inl rfl, by omega, fun K => by simp [n0, n1, k1, c40, c33, c41, c38, c124, h]⟩
        unfold grs
        rw [if_neg c40, if_neg c33, if_neg c41, if_neg (fun z => z.elim c38 c124), if_pos h, if_pos rfl]
theorem fault_gr {N n : Nat} {V : Pd} (hN : 5000 ≤ N) (hn : n ≤ 60) (e : V.2 = nI n) (hf : f_X1_findFault N V = some (-6)) : gr V.1 n = some (0, 0) := by
  have n6 : ∀ i, i ≤ 60 → nI i ≠ -6 := by
    intro i hi z
    have h := nI_pos (n := i) (by omega)
    rw [z] at h
    exact h (by decide)
  obtain ⟨o, g1, g2⟩ := lp_m (body := b_X1_findFault_6 N V) (P := fun k st => k ≤ n ∧ ∃ wa d, gr V.1 (n - k) = some (wa, d) ∧ (wa = 0 ∨ wa = 1) ∧ d ≤ n - k ∧ st = (nI wa, nI d, nI (n - k))) (Q := fun o => o = -6 → gr V.1 n = some (0, 0)) (by
    rintro k st ⟨hk, wa, d, hg, hw, hd, rfl⟩
    by_cases k0 : k = 0
    · subst k0
      rw [Nat.sub_zero] at hg hd ⊢
      have b : ∀ K, b_X1_findFault_6 N V K (nI wa, nI d, nI n) = some (if nI wa = 0 then (if nI d ≤ 0 then -6 else nI n) else nI n) := by
        intro K
        unfold b_X1_findFault_6 b_X1_findFault_105 b_X1_findFault_113 b_X1_findFault_122
        refine (if_pos (show V.2 ≤ nI n by rw [e]; exact Int32.le_refl _)).trans ?_
        dsimp only
        rw [e]
        by_cases w0 : nI wa = 0
        · rw [if_pos w0, if_pos w0]
          by_cases d0 : nI d ≤ 0
          · rw [if_pos d0, if_pos d0]
          · rw [if_neg d0, if_neg d0]
        · rw [if_neg w0, if_neg w0]
      refine .inl ⟨_, b, fun hq => ?_⟩
      by_cases w0 : nI wa = 0
      · rw [if_pos w0] at hq
        by_cases d0 : nI d ≤ 0
        · rcases hw with rfl | rfl
          · by_cases dz : d = 0
            · subst dz; exact hg
            · exact absurd d0 (nI_nle (by omega) (by omega))
          · exact absurd w0 (by decide)
        · rw [if_neg d0] at hq
          exact absurd hq (n6 n hn)
      · rw [if_neg w0] at hq
        exact absurd hq (n6 n hn)
    · rcases fault_one (N := N) (V := V) (i := n - k) (m := n) (wa := wa) (d := d) (by omega) hn e hw (by omega) with h | ⟨wa', d', h1, h2, h3, h4⟩
      · exact .inl ⟨_, h, fun hq => absurd hq (n6 _ (by omega))⟩
      · have ek : n - k + 1 = n - (k - 1) := by omega
        refine .inr ⟨k - 1, _, by omega, ⟨by omega, wa', d', ?_, h2, by omega, rfl⟩, fun K => ?_⟩
        · rw [← ek]
          show (gr V.1 (n - k)).bind _ = _
          rw [hg]; exact h1
        · rw [h4 K, ek])
    N n ((1 : Int32), (0 : Int32), (0 : Int32)) (by omega) ⟨Nat.le_refl _, 1, 0, by rw [Nat.sub_self]; rfl, .inr rfl, Nat.zero_le _, by rw [Nat.sub_self]; rfl⟩
  have : o = -6 := Option.some.inj (g1.symm.trans hf)
  exact g2 this
