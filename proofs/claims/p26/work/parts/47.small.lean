/-! PURE: the law's small functions; what it asks of a part -/
def lowN (x : Int32) (n : Nat) : Nat := (x.toBitVec.toNat % 2 ^ 31) % n
theorem lowN_lt (x : Int32) {n : Nat} (h : 0 < n) : lowN x n < n := Nat.mod_lt _ h
theorem low_ok (x : Int32) {n : Nat} (h0 : 0 < n) (hn : n < 2 ^ 31) : f_L_low x (nI n) = some (nI (lowN x n)) := by
  unfold f_L_low nz lowN
  rw [if_neg (nI_ne0 h0 hn), pk_and x 31 (by decide), pk_rem (Nat.mod_lt _ (by decide)) h0 hn]
def ltr (h : Int32) : Int32 := if 4 ≤ lowN h 8 then nI (61 + lowN h 8) else nI (97 + lowN h 8)
theorem letter_ok (h : Int32) : f_L_letter h = some (ltr h) ∧ isL (ltr h) := by
  have hk := lowN_lt h (n := 8) (by omega)
  unfold f_L_letter ltr b_L_letter_25
  rw [show (8 : Int32) = nI 8 from rfl, low_ok h (by omega) (by decide), Option.bind_some]
  generalize lowN h 8 = k at hk
  have hc : k = 0 ∨ k = 1 ∨ k = 2 ∨ k = 3 ∨ k = 4 ∨ k = 5 ∨ k = 6 ∨ k = 7 := by omega
  unfold isL
  rcases hc with rfl | rfl | rfl | rfl | rfl | rfl | rfl | rfl <;> exact ⟨by decide +kernel, by decide +kernel⟩
def prtOf (h : Int32) : Prt := (decide (lowN (h >>> ((3 : Int32) &&& 31)) 3 = 0), decide (lowN (h >>> ((5 : Int32) &&& 31)) 3 = 0), ltr h, ltr (h >>> ((7 : Int32) &&& 31)))
theorem prtOf_ok (h : Int32) : okP (prtOf h) := ⟨(letter_ok _).2, (letter_ok _).2⟩
theorem isNot_ok (h : Int32) : f_L_isNot h = some (if (prtOf h).1 then 1 else 0) := by
  unfold f_L_isNot prtOf b_L_isNot_15
  have hk := lowN_lt (h >>> ((3 : Int32) &&& 31)) (n := 3) (by omega)
  rw [show f_L_low (h >>> ((3 : Int32) &&& 31)) (3 : Int32) = _ from low_ok _ (n := 3) (by omega) (by decide), Option.bind_some]
  by_cases c : lowN (h >>> ((3 : Int32) &&& 31)) 3 = 0
  · rw [c, if_pos (show nI 0 = 0 from rfl), zb_ok (.inr rfl)]; rfl
  · rw [if_neg (nI_ne0 (by omega) (by omega)), zb_ok (.inl rfl)]
    dsimp only
    rw [decide_eq_false c]; rfl
theorem isTwo_ok (h : Int32) : f_L_isTwo h = some (if (prtOf h).2.1 then 1 else 0) := by
  unfold f_L_isTwo prtOf b_L_isTwo_15
  have hk := lowN_lt (h >>> ((5 : Int32) &&& 31)) (n := 3) (by omega)
  rw [show f_L_low (h >>> ((5 : Int32) &&& 31)) (3 : Int32) = _ from low_ok _ (n := 3) (by omega) (by decide), Option.bind_some]
  by_cases c : lowN (h >>> ((5 : Int32) &&& 31)) 3 = 0
  · rw [c, if_pos (show nI 0 = 0 from rfl), zb_ok (.inr rfl)]; rfl
  · rw [if_neg (nI_ne0 (by omega) (by omega)), zb_ok (.inl rfl)]
    dsimp only
    rw [decide_eq_false c]; rfl
def partV (g : Int32) (r p : Nat) : Int32 := (f_L_part g (nI r) (nI p)).getD 0
theorem part_ok' (g : Int32) (r p : Nat) : f_L_part g (nI r) (nI p) = some (partV g r p) := rfl
def PG (g : Int32) : Nat → Nat → Prt := fun r p => prtOf (partV g r p)
theorem PG_ok (g : Int32) (r p : Nat) : okP (PG g r p) := prtOf_ok _
def pcG (g : Int32) (r : Nat) : Nat := lowN (g >>> (((2 : Int32) + ((2 : Int32) * nI r)) &&& 31)) (if r = 2 then 2 else 3)
theorem pcG_lt (g : Int32) (r : Nat) : pcG g r < 3 := by
  unfold pcG
  by_cases c : r = 2
  · rw [if_pos c]; have := lowN_lt (g >>> (((2 : Int32) + ((2 : Int32) * nI r)) &&& 31)) (n := 2) (by omega); omega
  · rw [if_neg c]; exact lowN_lt _ (by omega)
theorem partsOf_ok (g : Int32) {r : Nat} (hr : r < 10) : f_L_partsOf g (nI r) = some (nI (pcG g r + 1)) := by
  unfold f_L_partsOf b_L_partsOf_18 pcG
  dsimp only
  by_cases c : r = 2
  · subst c
    rw [if_pos (show nI 2 = (2 : Int32) from rfl), if_pos rfl, show f_L_low (g >>> (((2 : Int32) + ((2 : Int32) * nI 2)) &&& 31)) (2 : Int32) = _ from low_ok _ (n := 2) (by omega) (by decide), Option.bind_some, show (1 : Int32) = nI 1 from rfl, nI_add, Nat.add_comm]
  · rw [if_neg (show ¬ nI r = (2 : Int32) from fun e => c ((nI_eq (b := 2) (by omega) (by decide)).mp e)), if_neg c, show f_L_low (g >>> (((2 : Int32) + ((2 : Int32) * nI r)) &&& 31)) (3 : Int32) = _ from low_ok _ (n := 3) (by omega) (by decide), Option.bind_some, show (1 : Int32) = nI 1 from rfl, nI_add, Nat.add_comm]
def rwG (g : Int32) : Nat := lowN g 3
theorem rwG_lt (g : Int32) : rwG g < 3 := lowN_lt _ (by omega)
theorem rows_ok (g : Int32) : f_L_rows g = some (nI (rwG g + 1)) := by
  unfold f_L_rows rwG
  rw [show f_L_low g (3 : Int32) = _ from low_ok _ (n := 3) (by omega) (by decide), Option.bind_some, show (1 : Int32) = nI 1 from rfl, nI_add, Nat.add_comm]
theorem k10 : ((1 : Int32) = 0) = False := eq_false (by decide)
theorem k01 : ((0 : Int32) = 1) = False := eq_false (by decide)
theorem partE_01 (q : Prt) (s : Nat) (hs : s < 256) (hq : okP q) : ((coreE q (nI s)).1 = 0 ∨ (coreE q (nI s)).1 = 1) ∧ ((partE q (nI s)).1 = 0 ∨ (partE q (nI s)).1 = 1) := by
  have a := (letter_val hq.1 hs).2.1
  have b := (letter_val hq.2 hs).2.1
  have c : (coreE q (nI s)).1 = 0 ∨ (coreE q (nI s)).1 = 1 := by
    unfold coreE
    split
    · unfold eOr
      dsimp only
      repeat' split
      all_goals simp
    · exact a
  refine ⟨c, ?_⟩
  unfold partE
  split
  · unfold eNot
    dsimp only
    split <;> simp
  · exact c
theorem isPart_ok (h : Int32) {s : Nat} (hs : s < 256) : f_L_isPart h (nI s) = some (partE (prtOf h) (nI s)).1 := by
  have hq := prtOf_ok h
  have a := letter_val hq.1 hs
  have b := letter_val hq.2 hs
  have e1 : f_L_letter h = some (prtOf h).2.2.1 := (letter_ok h).1
  have e2 : f_L_letter (h >>> ((7 : Int32) &&& 31)) = some (prtOf h).2.2.2 := (letter_ok _).1
  have e3 := isNot_ok h
  have e4 := isTwo_ok h
  generalize prtOf h = q at *
  obtain ⟨nt, tw, c1, c2⟩ := q
  dsimp only at *
  have core : ∃ v : Int32, (v = 0 ∨ v = 1) ∧ (coreE (nt, tw, c1, c2) (nI s)).1 = v ∧ f_L_isPart h (nI s) = b_L_isPart_37 h (nI s) v := by
    unfold f_L_isPart b_L_isPart_36 b_L_isPart_32
    rw [e1, Option.bind_some, a.1, Option.bind_some, e4, Option.bind_some, e2, Option.bind_some, b.1, Option.bind_some]
    unfold coreE eOr
    rcases a.2.1 with a2 | a2 <;> rcases b.2.1 with b2 | b2 <;> cases tw <;> simp [a2, b2]
  obtain ⟨v, hv, ec, ef⟩ := core
  rw [ef]
  unfold b_L_isPart_37 b_L_isPart_49 partE eNot
  rw [e3, Option.bind_some, ec]
  rcases hv with rfl | rfl <;> cases nt <;> simp [zb, ec]
