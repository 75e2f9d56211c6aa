/-! letters -/
def R00 : Ru := ((fun _ => 0), (fun _ => 0), (fun _ => 0), (fun _ => 0), 0, 0)
def isL (c : Int32) : Prop := c = 65 ∨ c = 66 ∨ c = 67 ∨ c = 68 ∨ c = 97 ∨ c = 98 ∨ c = 99 ∨ c = 100
theorem isL_of {c : Int32} (h : f_X6_isLetter c = some 1) : isL c := by
  have h0 : b_X6_isLetter_28 c () = some 0 := zb_ok (.inl rfl)
  have h1 : b_X6_isLetter_24 c () = some 1 := zb_ok (.inr rfl)
  have hne : ¬ (some (0 : Int32) = some 1) := by decide
  have key : (65 ≤ c.toInt ∧ c.toInt ≤ 68) ∨ (97 ≤ c.toInt ∧ c.toInt ≤ 100) := by
    unfold f_X6_isLetter b_X6_isLetter_12 at h
    rw [h0, h1] at h
    simp only [z_lt, z_le, show (97 : Int32).toInt = 97 from by decide, show (100 : Int32).toInt = 100 from by decide, show (65 : Int32).toInt = 65 from by decide, show (68 : Int32).toInt = 68 from by decide] at h
    by_cases a : c.toInt < 97
    · rw [if_pos a] at h
      by_cases b : c.toInt < 65
      · rw [if_pos b] at h; exact absurd h hne
      · rw [if_neg b] at h
        by_cases d : 68 < c.toInt
        · rw [if_pos d] at h; exact absurd h hne
        · exact .inl ⟨by omega, by omega⟩
    · rw [if_neg a] at h
      by_cases b : c.toInt ≤ 100
      · exact .inr ⟨by omega, b⟩
      · rw [if_neg b] at h
        by_cases d : c.toInt < 65
        · omega
        · rw [if_neg d] at h
          by_cases e : 68 < c.toInt
          · rw [if_pos e] at h; exact absurd h hne
          · omega
  have fin : ∀ k : Int, c.toInt = k → ∀ d : Int32, d.toInt = k → c = d := fun k h1 d h2 => Int32.toInt_inj.mp (h1.trans h2.symm)
  unfold isL
  have hc : c.toInt = 65 ∨ c.toInt = 66 ∨ c.toInt = 67 ∨ c.toInt = 68 ∨ c.toInt = 97 ∨ c.toInt = 98 ∨ c.toInt = 99 ∨ c.toInt = 100 := by omega
  rcases hc with q | q | q | q | q | q | q | q
  · exact .inl (fin _ q 65 (by decide))
  · exact .inr (.inl (fin _ q 66 (by decide)))
  · exact .inr (.inr (.inl (fin _ q 67 (by decide))))
  · exact .inr (.inr (.inr (.inl (fin _ q 68 (by decide)))))
  · exact .inr (.inr (.inr (.inr (.inl (fin _ q 97 (by decide))))))
  · exact .inr (.inr (.inr (.inr (.inr (.inl (fin _ q 98 (by decide)))))))
  · exact .inr (.inr (.inr (.inr (.inr (.inr (.inl (fin _ q 99 (by decide))))))))
  · exact .inr (.inr (.inr (.inr (.inr (.inr (.inr (fin _ q 100 (by decide))))))))
theorem let_tab : ∀ j, j < 4 → ∀ s, s < 256 → (f_X6_isSo (nI (65 + j)) (nI s) = some 0 ∨ f_X6_isSo (nI (65 + j)) (nI s) = some 1) ∧ f_X6_isSo (nI (65 + j)) (nI s) = ((f_X3_letterNumber R00 (nI (65 + j))).bind fun o => f_X3_letterHolds R00 o (nI s)) ∧ (f_X6_isSo (nI (97 + j)) (nI s) = some 0 ∨ f_X6_isSo (nI (97 + j)) (nI s) = some 1) ∧ f_X6_isSo (nI (97 + j)) (nI s) = ((f_X3_letterNumber R00 (nI (97 + j))).bind fun o => f_X3_letterHolds R00 o (nI s)) := by decide +kernel
