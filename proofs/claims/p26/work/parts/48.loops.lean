/-! PURE: the law's loops over rows and parts -/
def Q_ (g : Int32) (r : Nat) : Nat → Prt := fun p => prtOf (partV g r p)
theorem rw_01 (g : Int32) (r : Nat) {s : Nat} (hs : s < 256) : ∀ p, (rwE (Q_ g r) (nI s) p).1 = 0 ∨ (rwE (Q_ g r) (nI s) p).1 = 1
  | 0 => .inr rfl
  | p + 1 => by
    have h1 := fun p => (partE_01 (Q_ g r p) s hs (prtOf_ok _)).2
    show (if p = 0 then partE (Q_ g r 0) (nI s) else eAnd (rwE (Q_ g r) (nI s) p) (partE (Q_ g r p) (nI s))).1 = 0 ∨ _
    by_cases c : p = 0
    · show _ ∨ (if p = 0 then partE (Q_ g r 0) (nI s) else eAnd (rwE (Q_ g r) (nI s) p) (partE (Q_ g r p) (nI s))).1 = 1
      rw [if_pos c]; exact h1 0
    · show _ ∨ (if p = 0 then partE (Q_ g r 0) (nI s) else eAnd (rwE (Q_ g r) (nI s) p) (partE (Q_ g r p) (nI s))).1 = 1
      rw [if_neg c]
      unfold eAnd
      dsimp only
      repeat' split
      all_goals simp
theorem rw_s (g : Int32) (r : Nat) {s : Nat} (hs : s < 256) (p : Nat) : (rwE (Q_ g r) (nI s) (p + 1)).1 = if (rwE (Q_ g r) (nI s) p).1 = 0 then 0 else (partE (Q_ g r p) (nI s)).1 := by
  have h1 := fun p => (partE_01 (Q_ g r p) s hs (prtOf_ok _)).2
  show (if p = 0 then partE (Q_ g r 0) (nI s) else eAnd (rwE (Q_ g r) (nI s) p) (partE (Q_ g r p) (nI s))).1 = _
  by_cases c : p = 0
  · subst c
    rw [if_pos rfl]
    show _ = if (1 : Int32) = 0 then 0 else _
    rw [if_neg (by decide)]
  · rw [if_neg c]
    unfold eAnd
    dsimp only
    rcases h1 p with e | e
    · rw [e]; simp
    · rw [e, if_neg (show ¬ (1 : Int32) = 0 by decide)]
theorem rw_L (g : Int32) (r : Nat) {s : Nat} (p : Nat) : (rwE (Q_ g r) (nI s) (p + 1)).2.2 = (rwE (Q_ g r) (nI s) p).2.2 + (if p = 0 then 0 else 1) + (if (rwE (Q_ g r) (nI s) p).1 = 0 then 0 else (partE (Q_ g r p) (nI s)).2.2) := by
  show (if p = 0 then partE (Q_ g r 0) (nI s) else eAnd (rwE (Q_ g r) (nI s) p) (partE (Q_ g r p) (nI s))).2.2 = _
  by_cases c : p = 0
  · subst c
    rw [if_pos rfl, if_pos rfl]
    show _ = 0 + 0 + if (1 : Int32) = 0 then 0 else _
    rw [if_neg (by decide)]
    omega
  · rw [if_neg c, if_neg c]
    unfold eAnd
    dsimp only
    omega
theorem ru_s (g : Int32) {s : Nat} (hs : s < 256) (r : Nat) : (ruE (PG g) (pcG g) (nI s) (r + 1)).1 = if (ruE (PG g) (pcG g) (nI s) r).1 = 0 then (rwE (Q_ g r) (nI s) (pcG g r + 1)).1 else 1 := by
  have h1 := rw_01 g r hs (pcG g r + 1)
  show (if r = 0 then rwE (Q_ g 0) (nI s) (pcG g 0 + 1) else eOr (ruE (PG g) (pcG g) (nI s) r) (rwE (Q_ g r) (nI s) (pcG g r + 1))).1 = _
  by_cases c : r = 0
  · subst c
    rw [if_pos rfl]
    show _ = if (0 : Int32) = 0 then _ else 1
    rw [if_pos rfl]
  · rw [if_neg c]
    unfold eOr
    dsimp only
    rcases h1 with e | e
    · rw [e]; simp
    · rw [e]; simp
theorem ru_L (g : Int32) {s : Nat} (r : Nat) : (ruE (PG g) (pcG g) (nI s) (r + 1)).2.2 = (ruE (PG g) (pcG g) (nI s) r).2.2 + (if r = 0 then 0 else 1) + (if (ruE (PG g) (pcG g) (nI s) r).1 = 0 then (rwE (Q_ g r) (nI s) (pcG g r + 1)).2.2 else 0) := by
  show (if r = 0 then rwE (Q_ g 0) (nI s) (pcG g 0 + 1) else eOr (ruE (PG g) (pcG g) (nI s) r) (rwE (Q_ g r) (nI s) (pcG g r + 1))).2.2 = _
  by_cases c : r = 0
  · subst c
    rw [if_pos rfl, if_pos rfl]
    show _ = 0 + 0 + if (0 : Int32) = 0 then _ else 0
    rw [if_pos rfl]
    omega
  · rw [if_neg c, if_neg c]
    unfold eOr
    dsimp only
    omega
theorem ru_01 (g : Int32) {s : Nat} (hs : s < 256) : ∀ r, (ruE (PG g) (pcG g) (nI s) r).1 = 0 ∨ (ruE (PG g) (pcG g) (nI s) r).1 = 1
  | 0 => .inl rfl
  | r + 1 => by
    rw [ru_s g hs r]
    split
    · exact rw_01 g r hs _
    · exact .inr rfl
theorem holds_g {N : Nat} (hN : 5000 ≤ N) (g : Int32) {s : Nat} (hs : s < 256) : f_L_holds N g (nI s) = some (ruE (PG g) (pcG g) (nI s) (rwG g + 1)).1 := by
  unfold f_L_holds
  have hr := rwG_lt g
  refine lp_c (body := b_L_holds_4 N g (nI s)) (fun r => ((ruE (PG g) (pcG g) (nI s) r).1, nI r)) (rwG g + 1) _ (fun r hr' K => ?_) (fun K => ?_) (by omega)
  · unfold b_L_holds_4
    dsimp only
    rw [rows_ok, Option.bind_some, if_neg (nI_ge hr' (by omega))]
    refine lp_f (body := b_L_holds_18 N g (nI s) K) (fun p => ((ruE (PG g) (pcG g) (nI s) r).1, nI r, (rwE (Q_ g r) (nI s) p).1, nI p)) (pcG g r + 1) _ (fun p hp K2 => ?_) (fun K2 => ?_) (by have := pcG_lt g r; omega)
    · unfold b_L_holds_18 b_L_holds_51 b_L_holds_52
      have := pcG_lt g r
      dsimp only
      rw [partsOf_ok g (by omega), Option.bind_some, if_neg (nI_ge hp (by omega)), part_ok', Option.bind_some, isPart_ok _ hs, Option.bind_some, nI_1, rw_s g r hs p]
      by_cases c : (rwE (Q_ g r) (nI s) p).1 = 0
      · rw [if_pos c, if_pos c]
      · rw [if_neg c, if_neg c]
        have h1 := (partE_01 (Q_ g r p) s hs (prtOf_ok _)).2
        unfold Q_ at h1 ⊢
        rcases h1 with e | e
        · rw [e, if_pos rfl]
        · rw [e, if_neg (show ¬ (1 : Int32) = 0 by decide)]
    · unfold b_L_holds_18 b_L_holds_69 b_L_holds_74
      have := pcG_lt g r
      dsimp only
      rw [partsOf_ok g (by omega), Option.bind_some, if_pos (nI_le (Nat.le_refl _) (by omega)), nI_1, ru_s g hs r]
      by_cases c : (ruE (PG g) (pcG g) (nI s) r).1 = 0
      · rw [if_pos c, if_pos c]
        rcases rw_01 g r hs (pcG g r + 1) with e | e
        · rw [e, if_pos rfl]
        · rw [e, if_neg (show ¬ (1 : Int32) = 0 by decide)]
      · rw [if_neg c, if_neg c]
  · unfold b_L_holds_4
    dsimp only
    rw [rows_ok, Option.bind_some, if_pos (nI_le (Nat.le_refl _) (by omega))]
    exact zb_ok (ru_01 g hs _)
/-! looked at -/
theorem isSo_ok {c : Int32} (h : isL c) {s : Nat} (hs : s < 256) : f_L_isSo c (nI s) = some (lv c (nI s)) := (letter_val h hs).1
def cntP (p2 : Int32) (q : Prt) (s : Int32) : Nat := if p2 = 0 then (partE q s).2.2 else pN q
theorem look98 {N : Nat} {g p2 is r row p h lo n d : Int32} {K8 K36} {s : Nat} (hs : s < 256) (hlo : lo = 0 ∨ lo = 1) :
    b_L_looked_98 N g (nI s) p2 K8 K36 (is, r, row, p, h, lo, n, d) = b_L_looked_181 N g (nI s) p2 K8 K36 (is, r, row, p, h, n + d, if lo = 0 then 0 else nI (cntP p2 (prtOf h) (nI s))) := by
  have hq := prtOf_ok h
  have e1 : f_L_letter h = some (prtOf h).2.2.1 := (letter_ok h).1
  have e3 := isNot_ok h
  have e4 := isTwo_ok h
  have a := letter_val hq.1 hs
  unfold cntP
  generalize prtOf h = q at *
  obtain ⟨nt, tw, c1, c2⟩ := q
  dsimp only at *
  unfold b_L_looked_98 b_L_looked_124 b_L_looked_128 b_L_looked_129 b_L_looked_151 b_L_looked_165 b_L_looked_176
  dsimp only
  simp only [e1, e3, e4, Option.bind_some, a.1]
  unfold partE coreE pN pC eNot eOr
  rcases hlo with rfl | rfl
  · cases tw <;> simp
  · by_cases z : p2 = 0
    · rcases a.2.1 with a2 | a2 <;> cases nt <;> cases tw <;> simp [z, a2] <;> rfl
    · cases nt <;> cases tw <;> simp [z] <;> rfl
def accR (p2 : Int32) (g : Int32) (s r p : Nat) : Nat := if p2 = 0 then (if (ruE (PG g) (pcG g) (nI s) r).1 = 0 then (rwE (Q_ g r) (nI s) p).2.2 else 0) else rwN (Q_ g r) p
def accU (p2 : Int32) (g : Int32) (s r : Nat) : Nat := if p2 = 0 then (ruE (PG g) (pcG g) (nI s) r).2.2 else ruN (PG g) (pcG g) r
theorem accR_s {p2 : Int32} (hp2 : p2 = 0 ∨ p2 = 1) (g : Int32) (s r p : Nat) : accR p2 g s r (p + 1) = accR p2 g s r p + (if p = 0 then 0 else if p2 = 0 then (if (ruE (PG g) (pcG g) (nI s) r).1 = 0 then 1 else 0) else 1) + (if p2 = 0 then (if (ruE (PG g) (pcG g) (nI s) r).1 = 0 then (if (rwE (Q_ g r) (nI s) p).1 = 0 then 0 else (partE (Q_ g r p) (nI s)).2.2) else 0) else pN (Q_ g r p)) := by
  unfold accR
  rcases hp2 with rfl | rfl
  · rw [if_pos rfl, if_pos rfl, if_pos rfl, if_pos rfl]
    by_cases c : (ruE (PG g) (pcG g) (nI s) r).1 = 0
    · rw [if_pos c, if_pos c, if_pos c, if_pos c, rw_L]
    · rw [if_neg c, if_neg c, if_neg c, if_neg c]
      split <;> rfl
  · rw [if_neg k10.mp, if_neg k10.mp, if_neg k10.mp, if_neg k10.mp]
    show (if p = 0 then 0 else rwN (Q_ g r) p + 1) + pN (Q_ g r p) = _
    by_cases c : p = 0
    · subst c; rw [if_pos rfl, if_pos rfl]; show 0 + _ = 0 + 0 + _; omega
    · rw [if_neg c, if_neg c]
theorem accU_s {p2 : Int32} (hp2 : p2 = 0 ∨ p2 = 1) (g : Int32) (s r : Nat) : accU p2 g s (r + 1) = accU p2 g s r + (if r = 0 then 0 else 1) + accR p2 g s r (pcG g r + 1) := by
  unfold accU accR
  rcases hp2 with rfl | rfl
  · rw [if_pos rfl, if_pos rfl, if_pos rfl, ru_L]
  · rw [if_neg k10.mp, if_neg k10.mp, if_neg k10.mp]
    show (if r = 0 then 0 else ruN (PG g) (pcG g) r + 1) + rwN (Q_ g r) (pcG g r + 1) = _
    by_cases c : r = 0
    · subst c; rw [if_pos rfl, if_pos rfl]; show 0 + _ = 0 + 0 + _; omega
    · rw [if_neg c, if_neg c]
theorem looked_g {N : Nat} (hN : 5000 ≤ N) (g : Int32) {s : Nat} (hs : s < 256) {p2 : Int32} (hp2 : p2 = 0 ∨ p2 = 1) : f_L_looked N g (nI s) p2 = some (nI (accU p2 g s (rwG g + 1))) := by
  unfold f_L_looked
  have hr := rwG_lt g
  have h00 : accU p2 g s 0 = 0 := by
    unfold accU; split <;> rfl
  have key := lp_c (body := b_L_looked_8 N g (nI s) p2) (fun r => (nI (accU p2 g s r), (ruE (PG g) (pcG g) (nI s) r).1, nI r)) (rwG g + 1) (nI (accU p2 g s (rwG g + 1))) (fun r hr' K => ?_) (fun K => ?_) (N := N) (by omega)
  · rw [h00] at key
    exact key
  · have start : b_L_looked_8 N g (nI s) p2 K (nI (accU p2 g s r), (ruE (PG g) (pcG g) (nI s) r).1, nI r) = lp (b_L_looked_36 N g (nI s) p2 K) N (nI (accU p2 g s r + (if r = 0 then 0 else 1) + accR p2 g s r 0), (ruE (PG g) (pcG g) (nI s) r).1, nI r, (rwE (Q_ g r) (nI s) 0).1, nI 0) := by
      have h0 : accR p2 g s r 0 = 0 := by
        unfold accR
        split
        · split <;> rfl
        · rfl
      unfold b_L_looked_8 b_L_looked_28
      dsimp only
      rw [rows_ok, Option.bind_some, if_neg (nI_ge hr' (by omega)), h0, Nat.add_zero]
      by_cases c : r = 0
      · subst c
        rw [if_pos (show nI 0 ≤ 0 by decide), if_pos rfl, Nat.add_zero, Int32.add_zero]; rfl
      · rw [if_neg (nI_nle (by omega) (by omega)), if_neg c, nI_1]; rfl
    rw [start]
    refine lp_f (body := b_L_looked_36 N g (nI s) p2 K) (fun p => (nI (accU p2 g s r + (if r = 0 then 0 else 1) + accR p2 g s r p), (ruE (PG g) (pcG g) (nI s) r).1, nI r, (rwE (Q_ g r) (nI s) p).1, nI p)) (pcG g r + 1) _ (fun p hp K2 => ?_) (fun K2 => ?_) (by have := pcG_lt g r; omega)
    · have hpc := pcG_lt g r
      have h1 := (partE_01 (Q_ g r p) s hs (prtOf_ok _)).2
      have tail : ∀ (n c : Int32), b_L_looked_181 N g (nI s) p2 K K2 ((ruE (PG g) (pcG g) (nI s) r).1, nI r, (rwE (Q_ g r) (nI s) p).1, nI p, partV g r p, n, c) = K2 (n + c, (ruE (PG g) (pcG g) (nI s) r).1, nI r, (rwE (Q_ g r) (nI s) (p + 1)).1, nI (p + 1)) := by
        intro n c
        unfold b_L_looked_181 b_L_looked_201 b_L_looked_202
        dsimp only
        rw [isPart_ok _ hs, Option.bind_some, nI_1, rw_s g r hs p]
        by_cases z : (rwE (Q_ g r) (nI s) p).1 = 0
        · rw [if_pos z, if_pos z]
        · rw [if_neg z, if_neg z]
          unfold Q_ at h1 ⊢
          rcases h1 with e | e
          · rw [e, if_pos rfl]
          · rw [e, if_neg (show ¬ (1 : Int32) = 0 by decide)]
      have mid : ∀ (lo n : Int32), (lo = 0 ∨ lo = 1) → b_L_looked_76 N g (nI s) p2 K K2 (n, (ruE (PG g) (pcG g) (nI s) r).1, nI r, (rwE (Q_ g r) (nI s) p).1, nI p, partV g r p, lo) = K2 (n + nI (if p = 0 then 0 else if p2 = 0 then (if (ruE (PG g) (pcG g) (nI s) r).1 = 0 then 1 else 0) else 1) + (if lo = 0 then 0 else nI (cntP p2 (Q_ g r p) (nI s))), (ruE (PG g) (pcG g) (nI s) r).1, nI r, (rwE (Q_ g r) (nI s) (p + 1)).1, nI (p + 1)) := by
        intro lo n hlo
        unfold b_L_looked_76 b_L_looked_93 b_L_looked_97
        dsimp only
        rw [look98 hs hlo, look98 hs hlo, tail, tail]
        by_cases z : p = 0
        · subst z
          rw [if_pos (show nI 0 ≤ 0 by decide), if_pos rfl]; rfl
        · rw [if_neg (nI_nle (by omega) (by omega)), if_neg z]
          rcases hp2 with rfl | rfl
          · rw [if_pos rfl, if_pos rfl]
            by_cases y : (ruE (PG g) (pcG g) (nI s) r).1 = 0
            · rw [if_pos y, if_pos y]; rfl
            · rw [if_neg y, if_neg y]; rfl
          · rw [if_neg k10.mp, if_neg k10.mp]; rfl
      unfold b_L_looked_36 b_L_looked_71 b_L_looked_75
      dsimp only
      rw [partsOf_ok g (by omega), Option.bind_some, if_neg (nI_ge hp (by omega)), part_ok', Option.bind_some, mid _ _ (.inl rfl), mid _ _ (.inr rfl), accR_s hp2, if_pos rfl, if_neg k10.mp]
      have fin : ∀ a b c : Nat, nI a + nI b + nI c = nI (a + b + c) := fun a b c => by rw [nI_add, nI_add]
      rcases hp2 with rfl | rfl
      · rw [if_pos rfl, if_pos rfl, if_pos rfl]
        unfold cntP
        rw [if_pos rfl]
        by_cases y : (ruE (PG g) (pcG g) (nI s) r).1 = 0
        · rw [if_pos y, if_pos y, if_pos y]
          by_cases z : (rwE (Q_ g r) (nI s) p).1 = 0
          · rw [if_pos z, if_pos z, show (0 : Int32) = nI 0 from rfl, fin, Nat.add_assoc, Nat.add_assoc, Nat.add_assoc, Nat.add_assoc, Nat.add_assoc]
          · rw [if_neg z, if_neg z, fin, Nat.add_assoc, Nat.add_assoc, Nat.add_assoc, Nat.add_assoc, Nat.add_assoc]
        · rw [if_neg y, if_neg y, if_neg y, show (0 : Int32) = nI 0 from rfl, fin, Nat.add_assoc, Nat.add_assoc, Nat.add_assoc, Nat.add_assoc, Nat.add_assoc]
      · rw [if_neg k10.mp, if_neg k10.mp, if_neg k10.mp]
        unfold cntP
        rw [if_neg k10.mp, fin, Nat.add_assoc, Nat.add_assoc, Nat.add_assoc, Nat.add_assoc, Nat.add_assoc]
    · have hpc := pcG_lt g r
      unfold b_L_looked_36 b_L_looked_220 b_L_looked_225
      dsimp only
      rw [partsOf_ok g (by omega), Option.bind_some, if_pos (nI_le (Nat.le_refl _) (by omega)), nI_1, ru_s g hs r, accU_s hp2]
      by_cases c : (ruE (PG g) (pcG g) (nI s) r).1 = 0
      · rw [if_pos c, if_pos c]
        rcases rw_01 g r hs (pcG g r + 1) with e | e
        · rw [e, if_pos rfl]
        · rw [e, if_neg (show ¬ (1 : Int32) = 0 by decide)]
      · rw [if_neg c, if_neg c]
  · unfold b_L_looked_8
    dsimp only
    rw [rows_ok, Option.bind_some, if_pos (nI_le (Nat.le_refl _) (by omega))]
