/-! THE RELATION between the class's state and the reference's (pure) -/
abbrev CS : Type := Pd × Rd × St × St × Hb × St × St × St × St × St × St × St × St × Fn
/-- what working out a rule may change of the reference: its scratch -/
def Scr (M M2 : Md) : Prop := M2.1 = M.1 ∧ M2.2.1 = M.2.1 ∧ M2.2.2.1 = M.2.2.1 ∧ M2.2.2.2.1 = M.2.2.2.1 ∧ M2.2.2.2.2.1 = M.2.2.2.2.1 ∧ M2.2.2.2.2.2.1 = M.2.2.2.2.2.1 ∧ M2.2.2.2.2.2.2.1 = M.2.2.2.2.2.2.1 ∧ M2.2.2.2.2.2.2.2.1 = M.2.2.2.2.2.2.2.1
/-- the rule R is the text T of n signs: all that is asked of it answers alike -/
def SemA (R : Ru) (n : Nat) (T : Fn) : Prop := 1 ≤ n ∧ n ≤ 60 ∧ ∀ (N : Nat), 5000 ≤ N → ∀ M : Md, M.1 22 = nI n → (∀ k, k < n → M.1 (23 + k) = T k) →
  f_X6_parts N M = some R.2.2.2.2.1 ∧ f_X6_letters N M = some R.2.2.2.2.2 ∧
  ∀ s : Nat, s < 256 → ∃ (hv lv : Int32) (M2 : Md), f_X6_workOut N M (nI s) = some M2 ∧ Scr M M2 ∧ M2.2.2.2.2.2.2.2.2.1 0 = hv ∧ M2.2.2.2.2.2.2.2.2.2.2.1 0 = lv ∧ f_X3_depth R = some (M2.2.2.2.2.2.2.2.2.2.1 0) ∧ (hv = 0 ∨ hv = 1) ∧ f_X3_holds N R (nI s) = some hv ∧ f_X3_lookedAt N R (nI s) = some lv
def RuleOK (R : Ru) (zz : Fn) : Prop := ∃ n : Nat, zz 22 = nI n ∧ SemA R n (fun k => zz (23 + k))
/-- one state of the stairs: the class's V, the reference's row zz -/
def RelSt (T : Nat) (R : Ru) (V : St) (zz : Fn) : Prop := ∃ p t s : Nat, p ≤ 20 ∧ t ≤ T ∧ s < 256 ∧ V.2.2.2.2.2.2.2.1 = nI p ∧ zz 10 = nI p ∧ V.2.2.2.2.2.2.2.2.2.2.1 = nI t ∧ zz 7 = nI t ∧ V.2.2.2.2.2.2.2.2.1 = nI s ∧ zz 11 = nI s ∧
  (∀ j, j < 7 → V.1 j = zz j) ∧
  (10 ≤ (zz 0).toInt ∧ (zz 0).toInt ≤ 90 ∧ 1 ≤ (zz 1).toInt ∧ (zz 1).toInt ≤ 40 ∧ 1 ≤ (zz 2).toInt ∧ (zz 2).toInt ≤ 30 ∧ 1 ≤ (zz 3).toInt ∧ (zz 3).toInt ≤ 99 ∧ 1 ≤ (zz 4).toInt ∧ (zz 4).toInt ≤ 99 ∧ 1 ≤ (zz 5).toInt ∧ (zz 5).toInt ≤ 999 ∧ 1 ≤ (zz 6).toInt ∧ (zz 6).toInt ≤ 9999) ∧
  (V.2.2.2.2.2.2.2.2.2.2.2.1 = zz 8 ∧ 0 ≤ (zz 8).toInt ∧ (zz 8).toInt ≤ 90) ∧
  (V.2.2.2.2.2.2.2.2.2.1 = zz 9 ∧ (zz 9 = 0 ∨ zz 9 = 1 ∨ zz 9 = 2) ∧ (zz 9 = 2 → zz 8 = 0)) ∧
  (∀ j, j < 4 → V.2.2.2.2.1 j = zz (12 + j)) ∧
  (V.2.2.2.2.2.2.2.2.2.2.2.2.2.2.2.1 = zz 16 ∧ V.2.2.2.2.2.2.2.2.2.2.2.2.1 = zz 17 ∧ V.2.2.2.2.2.2.2.2.2.2.2.2.2.1 = zz 18 ∧ V.2.2.2.2.2.2.2.2.2.2.2.2.2.2.1 = zz 19 ∧ V.2.2.2.2.2.2.2.2.2.2.2.2.2.2.2.2.1 = zz 20 ∧ V.2.2.2.2.2.2.2.2.2.2.2.2.2.2.2.2.2 = zz 21) ∧
  (∀ i, i < p → V.2.2.1 i = zz (83 + 3 * i) ∧ (V.2.1 i = zz (84 + 3 * i) ∧ (zz (84 + 3 * i)).toInt < 1000) ∧ V.2.2.2.1 i = zz (85 + 3 * i) ∧ 1 ≤ (zz (83 + 3 * i)).toInt ∧ (zz (83 + 3 * i)).toInt ≤ 200) ∧
  (∀ j, j < 30 → V.2.2.2.2.2.1 j = zz (143 + j)) ∧ RuleOK R zz
def VK (S : CS) (k : Nat) : St := if k = 0 then S.2.2.2.2.2.1 else if k = 1 then S.2.2.2.2.2.2.1 else if k = 2 then S.2.2.2.2.2.2.2.1 else if k = 3 then S.2.2.2.2.2.2.2.2.1 else if k = 4 then S.2.2.2.2.2.2.2.2.2.1 else S.2.2.2.2.2.2.2.2.2.2.1
def VS (S : CS) (k : Nat) : St := if k = 0 then S.2.2.2.2.2.2.2.2.2.2.2.1 else S.2.2.2.2.2.2.2.2.2.2.2.2.1
def RelS (ρ : Nat → Ru) (RS : Nat → Prop) (S : CS) (M : Md) : Prop :=
  (RelSt 99999 (ρ S.2.2.1.2.2.2.2.2.2.1) S.2.2.1 M.1 ∧ RS S.2.2.1.2.2.2.2.2.2.1) ∧
  (∃ l h : Nat, l < 6 ∧ h ≤ 6 ∧ S.2.2.2.2.1.1 = nI l ∧ S.2.2.2.2.1.2 = nI h ∧ M.2.2.2.2.1 = nI h ∧ ∀ j, j < h → RelSt 99999 (ρ (VK S ((l + 12 - j) % 6)).2.2.2.2.2.2.1) (VK S ((l + 12 - j) % 6)) (fun x => M.2.1 ((h - 1 - j) * 173 + x)) ∧ RS (VK S ((l + 12 - j) % 6)).2.2.2.2.2.2.1) ∧
  (∀ b, b < 2 → (S.2.2.2.2.2.2.2.2.2.2.2.2.2 b = 0 ∧ M.2.2.2.1 b = 0) ∨ (S.2.2.2.2.2.2.2.2.2.2.2.2.2 b = 1 ∧ M.2.2.2.1 b = 1 ∧ RelSt 99999 (ρ (VS S b).2.2.2.2.2.2.1) (VS S b) (fun x => M.2.2.1 (b * 173 + x)) ∧ RS (VS S b).2.2.2.2.2.2.1)) ∧
  (∃ n : Nat, n ≤ 60 ∧ S.1.2 = nI n ∧ M.2.2.2.2.2.2.2.1 = nI n ∧ ∀ k, k < n → S.1.1 k = M.2.2.2.2.2.2.1 k)
