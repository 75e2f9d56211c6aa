/-! faults of the pad -/
theorem letr {V : Pd} {c : Int32} : f_X1_isLetter V c = f_X6_isLetter c := rfl
theorem letr01 (c : Int32) : f_X6_isLetter c = some 0 ∨ f_X6_isLetter c = some 1 := by
  have h0 : b_X6_isLetter_28 c () = some 0 := zb_ok (.inl rfl)
  have h1 : b_X6_isLetter_24 c () = some 1 := zb_ok (.inr rfl)
  unfold f_X6_isLetter b_X6_isLetter_12
  rw [h0, h1]
  repeat' split
  all_goals first | exact .inl rfl | exact .inr rfl
theorem fault_step {N i m : Nat} {V : Pd} {M : Md} {w d : Int32} (hi : i < m) (hm : m ≤ 60) (e1 : V.2 = nI m) (e2 : M.2.2.2.2.2.2.2.1 = nI m) (ec : V.1 i = M.2.2.2.2.2.2.1 i) (hw : w = 0 ∨ w = 1) :
    ((∀ K, b_X1_findFault_6 N V K (w, d, nI i) = some (nI i)) ∧ (∀ K, b_X6_fault_6 N M K (w, d, nI i) = some (nI i))) ∨ (∃ w' d', (w' = 0 ∨ w' = 1) ∧ (∀ K, b_X1_findFault_6 N V K (w, d, nI i) = K (w', d', nI (i + 1))) ∧ (∀ K, b_X6_fault_6 N M K (w, d, nI i) = K (w', d', nI (i + 1)))) := by
  have a1 : ∀ K, b_X1_findFault_6 N V K (w, d, nI i) = (if w = 0 then ((f_X1_followsPart V (V.1 i) d).bind fun o11 => (if o11 = 0 then b_X1_findFault_54 N V (nI i) else b_X1_findFault_56 N V K (w, d, nI i, V.1 i))) else ((f_X1_beginsPart V (V.1 i)).bind fun o14 => (if o14 = 0 then b_X1_findFault_54 N V (nI i) else b_X1_findFault_56 N V K (w, d, nI i, V.1 i)))) := by
    intro K
    unfold b_X1_findFault_6
    dsimp only
    rw [if_neg (show ¬ V.2 ≤ nI i by rw [e1]; exact nI_ge hi (by omega)), if_neg (show ¬ (60 : Int32) ≤ nI i from nI_ge (show i < 60 by omega) (by decide)), ix_nI (show i < 60 by omega) (by decide), cl i (by omega)]
  have a2 : ∀ K, b_X6_fault_6 N M K (w, d, nI i) = (if (M.2.2.2.2.2.2.1 i) = (33 : Int32) then b_X6_fault_36 N M K (w, d, nI i, (M.2.2.2.2.2.2.1 i)) else (if (M.2.2.2.2.2.2.1 i) = (40 : Int32) then b_X6_fault_36 N M K (w, d, nI i, (M.2.2.2.2.2.2.1 i)) else b_X6_fault_41 N M K (w, d, nI i, (M.2.2.2.2.2.2.1 i), (0 : Int32)))) := by
    intro K
    unfold b_X6_fault_6
    dsimp only
    rw [if_neg (show ¬ M.2.2.2.2.2.2.2.1 ≤ nI i by rw [e2]; exact nI_ge hi (by omega)), ix_nI (show i < 60 by omega) (by decide), cl i (by omega)]
  rw [ec] at a1
  obtain ⟨c, hc⟩ : ∃ c, M.2.2.2.2.2.2.1 i = c := ⟨_, rfl⟩
  rw [hc] at a1 a2
  simp only [a1, a2]
  unfold f_X1_followsPart f_X1_beginsPart b_X1_followsPart_22 b_X1_followsPart_26 b_X1_followsPart_27 b_X1_beginsPart_20 b_X1_beginsPart_25 b_X1_findFault_54 b_X1_findFault_56 b_X1_findFault_98 b_X1_findFault_99 b_X6_fault_36 b_X6_fault_41 b_X6_fault_57 b_X6_fault_62
  simp only [b_X6_fault_105, b_X6_fault_109, b_X6_fault_110, b_X6_fault_81, b_X6_fault_143, b_X6_fault_155, b_X6_fault_160, nI_1, letr, zb, true_or, or_true, if_true]
  have k1 : ¬ (1 : Int32) = 0 := by decide
  by_cases c40 : c = 40
  · subst c40
    rcases hw with rfl | rfl
    · left; constructor <;> intro K <;> rfl
    · right; exact ⟨1, d + 1, .inr rfl, fun K => rfl, fun K => rfl⟩
  by_cases c33 : c = 33
  · subst c33
    rcases hw with rfl | rfl
    · left; constructor <;> intro K <;> rfl
    · right; exact ⟨1, d, .inr rfl, fun K => rfl, fun K => by simp [k1]⟩
  by_cases c41 : c = 41
  · subst c41
    rcases hw with rfl | rfl
    · by_cases hd : d ≤ 0
      · left; constructor <;> intro K <;> simp [hd]
      · right; exact ⟨0, d - 1, .inl rfl, fun K => by simp [hd], fun K => by simp [hd, Int32.sub_eq_add_neg]⟩
    · left
      have : f_X6_isLetter 41 = some 0 := by decide
      constructor <;> intro K <;> simp [this]
  by_cases c38 : c = 38
  · subst c38
    rcases hw with rfl | rfl
    · right; exact ⟨1, d, .inr rfl, fun K => by simp, fun K => by simp⟩
    · left
      have : f_X6_isLetter 38 = some 0 := by decide
      constructor <;> intro K <;> simp [this]
  by_cases c124 : c = 124
  · subst c124
    rcases hw with rfl | rfl
    · right; exact ⟨1, d, .inr rfl, fun K => by simp, fun K => by simp⟩
    · left
      have : f_X6_isLetter 124 = some 0 := by decide
      constructor <;> intro K <;> simp [this]
  · rcases hw with rfl | rfl
    · left; constructor <;> intro K <;> simp [c40, c33, c41, c38, c124]
    · rcases letr01 c with h | h
      · left; constructor <;> intro K <;> simp [c40, c33, c41, c38, c124, h]
      · right; exact ⟨0, d, .inl rfl, fun K => by simp [c40, c33, c41, c38, c124, h], fun K => by simp [c40, c33, c41, c38, c124, h]⟩
theorem st_fault {ρ : Nat → Ru} {RS : Nat → Prop} {Vp : Pd} {Vd : Rd} {Vn : St} {Vm : St} {Vh : Hb} {Vk0 : St} {Vk1 : St} {Vk2 : St} {Vk3 : St} {Vk4 : St} {Vk5 : St} {Vs0 : St} {Vs1 : St} {Vz : Fn} {M : Md} {N : Nat} (hN : 5000 ≤ N) (H : RelS ρ RS (Vp, Vd, Vn, Vm, Vh, Vk0, Vk1, Vk2, Vk3, Vk4, Vk5, Vs0, Vs1, Vz) M) : ∃ (o1 : Int32) (o2 : Int32), f_X5_fault N Vp = some o1 ∧ f_X6_fault N M = some o2 ∧ o1 = o2 ∧ RelS ρ RS (Vp, Vd, Vn, Vm, Vh, Vk0, Vk1, Vk2, Vk3, Vk4, Vk5, Vs0, Vs1, Vz) M := by
  obtain ⟨hn, hh, hs, n, hp1, hp2, hp3, hp4⟩ := RelS_iff.mp H
  obtain ⟨o1, o2, g1, g2, g3⟩ := lp_2 (b1 := b_X1_findFault_6 N Vp) (b2 := b_X6_fault_6 N M) (P := fun k s1 s2 => k ≤ n ∧ ∃ w d : Int32, (w = 0 ∨ w = 1) ∧ s1 = (w, d, nI (n - k)) ∧ s2 = (w, d, nI (n - k))) (Q := fun a b => a = b) (by
    rintro k s1 s2 ⟨hk, w, d, hw, rfl, rfl⟩
    by_cases k0 : k = 0
    · subst k0
      refine .inl ⟨(if w = 0 then (if d ≤ 0 then -6 else nI n) else nI n), (if w = 0 then (if d ≤ 0 then -6 else nI n) else nI n), fun K => ?_, fun K => ?_, rfl⟩
      · unfold b_X1_findFault_6 b_X1_findFault_105 b_X1_findFault_113 b_X1_findFault_122
        rw [if_pos (show Vp.2 ≤ nI (n - 0) by rw [hp2]; exact nI_le (by omega) (by omega)), hp2]
        dsimp only
        by_cases w0 : w = 0
        · rw [if_pos w0, if_pos w0]
          by_cases d0 : d ≤ 0
          · rw [if_pos d0, if_pos d0]
          · rw [if_neg d0, if_neg d0]
        · rw [if_neg w0, if_neg w0]
      · unfold b_X6_fault_6 b_X6_fault_175 b_X6_fault_184
        rw [if_pos (show M.2.2.2.2.2.2.2.1 ≤ nI (n - 0) by rw [hp3]; exact nI_le (by omega) (by omega)), hp3]
        dsimp only
        by_cases w0 : w = 0
        · rw [if_pos w0, if_pos w0]
          by_cases d0 : d ≤ 0
          · rw [if_pos d0, if_pos d0]
          · rw [if_neg d0, if_neg d0]
        · rw [if_neg w0, if_neg w0]
    · rcases fault_step (N := N) (V := Vp) (M := M) (w := w) (d := d) (i := n - k) (m := n) (by omega) hp1 hp2 hp3 (hp4 _ (by omega)) hw with ⟨q1, q2⟩ | ⟨w', d', q0, q1, q2⟩
      · exact .inl ⟨_, _, q1, q2, rfl⟩
      · rw [show n - k + 1 = n - (k - 1) from by omega] at q1 q2
        exact .inr ⟨k - 1, _, _, by omega, ⟨by omega, w', d', q0, rfl, rfl⟩, q1, q2⟩)
    n N N ((1 : Int32), (0 : Int32), (0 : Int32)) ((1 : Int32), (0 : Int32), (0 : Int32)) (by omega) (by omega) ⟨Nat.le_refl _, 1, 0, .inr rfl, by rw [Nat.sub_self]; rfl, by rw [Nat.sub_self]; rfl⟩
  unfold f_X5_fault
  rw [show f_X1_findFault N Vp = some o1 from g1]
  exact ⟨_, _, rfl, g2, g3, H⟩
