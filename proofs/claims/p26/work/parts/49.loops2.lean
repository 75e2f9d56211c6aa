/-! PURE: the law's depth, letters, bits; what it writes -/
theorem bits_tab : ∀ k, k < 256 → ∃ v : Int32, f_J6_bitCount_0f7a4 (nI k) = some v ∧ lp (b_L_bits_4 0 (nI k)) 9 ((0 : Int32), (0 : Int32)) = some v := by
  have : ∀ k, k < 256 → (f_J6_bitCount_0f7a4 (nI k)).isSome = true ∧ f_J6_bitCount_0f7a4 (nI k) = lp (b_L_bits_4 0 (nI k)) 9 ((0 : Int32), (0 : Int32)) := by decide +kernel
  intro k hk
  obtain ⟨h1, h2⟩ := this k hk
  obtain ⟨v, hv⟩ := Option.isSome_iff_exists.mp h1
  exact ⟨v, hv, h2.symm.trans hv⟩
theorem bits_ok {N k : Nat} (hN : 5000 ≤ N) (hk : k < 256) : ∃ v : Int32, f_J6_bitCount_0f7a4 (nI k) = some v ∧ f_L_bits N (nI k) = some v := by
  obtain ⟨v, h1, h2⟩ := bits_tab k hk
  refine ⟨v, h1, lp_mono (body := b_L_bits_4 0 (nI k)) (fun K K' hK s o h => ?_) 9 N (by omega) _ _ h2⟩
  unfold b_L_bits_4 at h ⊢
  by_cases c : (8 : Int32) ≤ s.2
  · rw [if_pos c] at h ⊢; exact h
  · rw [if_neg c] at h ⊢; exact hK _ _ h
theorem partE_D (q : Prt) (s : Int32) : (partE q s).2.1 = ((1 : Int32) + (if q.1 then 1 else 0)) + (if q.2.1 then 1 else 0) := by
  obtain ⟨nt, tw, c1, c2⟩ := q
  unfold partE coreE eNot eOr
  cases nt <;> cases tw <;> rfl
theorem rw_D (g : Int32) (r : Nat) (s : Int32) (p : Nat) : (rwE (Q_ g r) s (p + 1)).2.1 = if p = 0 then (partE (Q_ g r p) s).2.1 else 1 + (if (rwE (Q_ g r) s p).2.1 ≤ (partE (Q_ g r p) s).2.1 then (partE (Q_ g r p) s).2.1 else (rwE (Q_ g r) s p).2.1) := by
  show (if p = 0 then partE (Q_ g r 0) s else eAnd (rwE (Q_ g r) s p) (partE (Q_ g r p) s)).2.1 = _
  by_cases c : p = 0
  · subst c; rw [if_pos rfl, if_pos rfl]
  · rw [if_neg c, if_neg c, ← max_comm']; rfl
theorem ru_D (g : Int32) (s : Int32) (r : Nat) : (ruE (PG g) (pcG g) s (r + 1)).2.1 = if r = 0 then (rwE (Q_ g r) s (pcG g r + 1)).2.1 else 1 + (if (ruE (PG g) (pcG g) s r).2.1 ≤ (rwE (Q_ g r) s (pcG g r + 1)).2.1 then (rwE (Q_ g r) s (pcG g r + 1)).2.1 else (ruE (PG g) (pcG g) s r).2.1) := by
  show (if r = 0 then rwE (Q_ g 0) s (pcG g 0 + 1) else eOr (ruE (PG g) (pcG g) s r) (rwE (Q_ g r) s (pcG g r + 1))).2.1 = _
  by_cases c : r = 0
  · subst c; rw [if_pos rfl, if_pos rfl]
  · rw [if_neg c, if_neg c, ← max_comm']; rfl
theorem deep_g {N : Nat} (hN : 5000 ≤ N) (g : Int32) (s : Int32) : f_L_deep N g = some (ruE (PG g) (pcG g) s (rwG g + 1)).2.1 := by
  unfold f_L_deep
  have hr := rwG_lt g
  refine lp_c (body := b_L_deep_4 N g) (fun r => ((ruE (PG g) (pcG g) s r).2.1, nI r)) (rwG g + 1) _ (fun r hr' K => ?_) (fun K => ?_) (by omega)
  · unfold b_L_deep_4
    dsimp only
    rw [rows_ok, Option.bind_some, if_neg (nI_ge hr' (by omega))]
    refine lp_f (body := b_L_deep_17 N g K) (fun p => ((ruE (PG g) (pcG g) s r).2.1, nI r, (rwE (Q_ g r) s p).2.1, nI p)) (pcG g r + 1) _ (fun p hp K2 => ?_) (fun K2 => ?_) (by have := pcG_lt g r; omega)
    · have := pcG_lt g r
      have key : b_L_deep_17 N g K K2 ((ruE (PG g) (pcG g) s r).2.1, nI r, (rwE (Q_ g r) s p).2.1, nI p) = b_L_deep_64 N g K K2 ((ruE (PG g) (pcG g) s r).2.1, nI r, (rwE (Q_ g r) s p).2.1, nI p, ((1 : Int32) + (if (Q_ g r p).1 then 1 else 0)), (if (Q_ g r p).2.1 then 1 else 0)) := by
        unfold b_L_deep_17 b_L_deep_50
        dsimp only
        rw [partsOf_ok g (by omega), Option.bind_some, if_neg (nI_ge hp (by omega)), part_ok', Option.bind_some, isNot_ok, Option.bind_some, isTwo_ok, Option.bind_some, Option.bind_some]
        unfold Q_
        cases (prtOf (partV g r p)).1 <;> cases (prtOf (partV g r p)).2.1 <;> rfl
      rw [key]
      unfold b_L_deep_64 b_L_deep_90 b_L_deep_91
      dsimp only
      rw [← partE_D _ s, nI_1, rw_D]
      by_cases c : p = 0
      · subst c
        rw [if_pos (show nI 0 = 0 from rfl), if_pos rfl]
      · rw [if_neg (nI_ne0 (by omega) (by omega)), if_neg c]
        by_cases d : (rwE (Q_ g r) s p).2.1 ≤ (partE (Q_ g r p) s).2.1
        · rw [if_pos d, if_pos d]
        · rw [if_neg d, if_neg d]
    · have := pcG_lt g r
      unfold b_L_deep_17 b_L_deep_117 b_L_deep_118
      dsimp only
      rw [partsOf_ok g (by omega), Option.bind_some, if_pos (nI_le (Nat.le_refl _) (by omega)), nI_1, ru_D]
      by_cases c : r = 0
      · subst c
        rw [if_pos (show nI 0 = 0 from rfl), if_pos rfl]
      · rw [if_neg (nI_ne0 (by omega) (by omega)), if_neg c]
        by_cases d : (ruE (PG g) (pcG g) s r).2.1 ≤ (rwE (Q_ g r) s (pcG g r + 1)).2.1
        · rw [if_pos d, if_pos d]
        · rw [if_neg d, if_neg d]
  · unfold b_L_deep_4
    dsimp only
    rw [rows_ok, Option.bind_some, if_pos (nI_le (Nat.le_refl _) (by omega))]
theorem letters_g {N : Nat} (hN : 5000 ≤ N) (g : Int32) : f_L_letters N g = some (ruL (PG g) (pcG g) (rwG g + 1)) := by
  unfold f_L_letters
  have hr := rwG_lt g
  refine lp_c (body := b_L_letters_4 N g) (fun r => (ruL (PG g) (pcG g) r, nI r)) (rwG g + 1) _ (fun r hr' K => ?_) (fun K => ?_) (by omega)
  · unfold b_L_letters_4
    dsimp only
    rw [rows_ok, Option.bind_some, if_neg (nI_ge hr' (by omega))]
    refine lp_f (body := b_L_letters_14 N g K) (fun p => (rwL (Q_ g r) (ruL (PG g) (pcG g) r) p, nI r, nI p)) (pcG g r + 1) _ (fun p hp K2 => ?_) (fun K2 => ?_) (by have := pcG_lt g r; omega)
    · have := pcG_lt g r
      unfold b_L_letters_14
      dsimp only
      rw [partsOf_ok g (by omega), Option.bind_some, if_neg (nI_ge hp (by omega)), part_ok', Option.bind_some]
      show _ = K2 (pL (rwL (Q_ g r) (ruL (PG g) (pcG g) r) p) (Q_ g r p), nI r, nI (p + 1))
      generalize rwL (Q_ g r) (ruL (PG g) (pcG g) r) p = lm
      obtain ⟨m, hm⟩ : ∃ m, N = m + 3 := ⟨N - 3, by omega⟩
      have fuel : lp (b_L_letters_34 N g K K2) N (lm, nI r, nI p, partV g r p, 0) = b_L_letters_34 N g K K2 (fun s => b_L_letters_34 N g K K2 (fun s => b_L_letters_34 N g K K2 (lp (b_L_letters_34 N g K K2) m) s) s) (lm, nI r, nI p, partV g r p, 0) := by
        conv => lhs; rw [hm]
        rw [hm]; rfl
      rw [fuel]
      have e1 : f_L_letter (partV g r p) = some (Q_ g r p).2.2.1 := (letter_ok _).1
      have e2 : f_L_letter (partV g r p >>> ((7 : Int32) &&& 31)) = some (Q_ g r p).2.2.2 := (letter_ok _).1
      have e3 : f_L_isTwo (partV g r p) = some (if (Q_ g r p).2.1 then 1 else 0) := isTwo_ok _
      generalize Q_ g r p = q at *
      obtain ⟨nt, tw, c1, c2⟩ := q
      have l67 : ∀ (K3 : Int32 × Int32 × Int32 × Int32 × Int32 → Option Int32) (a b c d e f z : Int32), f_L_letter f = some z → b_L_letters_67 N g K K2 K3 (a, b, c, d, e, f) = K3 (a ||| lmk z, b, c, d, e + 1) := by
        intro K3 a b c d e f z hz
        unfold b_L_letters_67 b_L_letters_98 lmk
        dsimp only
        rw [hz, Option.bind_some]
        by_cases q : z < 97
        · rw [if_pos q, if_pos q]
        · rw [if_neg q, if_neg q]
      have l34 : ∀ (K3 : Int32 × Int32 × Int32 × Int32 × Int32 → Option Int32) (a b c h k t : Int32), f_L_isTwo h = some t → b_L_letters_34 N g K K2 K3 (a, b, c, h, k) = b_L_letters_49 N g K K2 K3 (a, b, c, h, k, k, if t = 0 then 1 else 2) := by
        intro K3 a b c h k t ht
        unfold b_L_letters_34
        dsimp only
        rw [ht, Option.bind_some]
        by_cases q : t = 0
        · rw [if_pos q, if_pos q]
        · rw [if_neg q, if_neg q]
      have l49 : ∀ (K3 : Int32 × Int32 × Int32 × Int32 × Int32 → Option Int32) (a b c h e k n : Int32), b_L_letters_49 N g K K2 K3 (a, b, c, h, e, k, n) = (if n ≤ k then K2 (a, b, c + 1) else (if e = 0 then b_L_letters_67 N g K K2 K3 (a, b, c, h, e, h) else b_L_letters_67 N g K K2 K3 (a, b, c, h, e, h >>> ((7 : Int32) &&& 31)))) := fun _ _ _ _ _ _ _ _ => rfl
      unfold pL
      dsimp only at e1 e2 e3 ⊢
      cases tw with
      | false =>
        have e4 : f_L_isTwo (partV g r p) = some 0 := e3
        rw [l34 _ _ _ _ _ _ _ e4, l49, if_pos rfl, if_neg (by decide), if_pos rfl, l67 _ _ _ _ _ _ _ _ e1, l34 _ _ _ _ _ _ _ e4, l49, if_pos rfl, if_pos (by decide), nI_1]
        rfl
      | true =>
        have e4 : f_L_isTwo (partV g r p) = some 1 := e3
        rw [l34 _ _ _ _ _ _ _ e4, l49, if_neg k10.mp, if_neg (by decide), if_pos rfl, l67 _ _ _ _ _ _ _ _ e1, l34 _ _ _ _ _ _ _ e4, l49, if_neg k10.mp, if_neg (by decide), if_neg (by decide), l67 _ _ _ _ _ _ _ _ e2, l34 _ _ _ _ _ _ _ e4, l49, if_neg k10.mp, if_pos (by decide), nI_1]
        rfl
    · have := pcG_lt g r
      unfold b_L_letters_14
      dsimp only
      rw [partsOf_ok g (by omega), Option.bind_some, if_pos (nI_le (Nat.le_refl _) (by omega)), nI_1]
      rfl
  · unfold b_L_letters_4
    dsimp only
    rw [rows_ok, Option.bind_some, if_pos (nI_le (Nat.le_refl _) (by omega))]
/-! what it writes -/
theorem ptx_len (q : Prt) : (ptx q).length ≤ 6 := by
  obtain ⟨nt, tw, c1, c2⟩ := q
  unfold ptx
  cases nt <;> cases tw <;> simp
theorem rowT_len (Q : Nat → Prt) : ∀ p, (rowT Q p).length ≤ 7 * p - (if p = 0 then 0 else 1)
  | 0 => by show 0 ≤ _; omega
  | p + 1 => by
    have h1 := rowT_len Q p
    have h2 := ptx_len (Q p)
    show (rowT Q p ++ ((if p = 0 then [] else [38]) ++ ptx (Q p))).length ≤ _
    rw [List.length_append, List.length_append]
    by_cases c : p = 0
    · subst c; rw [if_pos rfl]; show 0 + (0 + _) ≤ 7 * 1 - 1; omega
    · rw [if_neg c] at h1 ⊢
      rw [if_neg (show ¬ p + 1 = 0 by omega)]
      simp only [List.length_singleton]
      omega
theorem pcG_2 (g : Int32) : pcG g 2 < 2 := lowN_lt _ (by decide)
theorem rulT_len (g : Int32) : (rulT (PG g) (pcG g) 1).length ≤ 20 ∧ (rulT (PG g) (pcG g) 2).length ≤ 41 ∧ (rulT (PG g) (pcG g) 3).length ≤ 55 := by
  have p0 := pcG_lt g 0
  have p1 := pcG_lt g 1
  have p2 := pcG_2 g
  have a0 := rowT_len (PG g 0) (pcG g 0 + 1)
  have a1 := rowT_len (PG g 1) (pcG g 1 + 1)
  have a2 := rowT_len (PG g 2) (pcG g 2 + 1)
  rw [if_neg (by omega)] at a0 a1 a2
  have e1 : (rulT (PG g) (pcG g) 1).length = (rowT (PG g 0) (pcG g 0 + 1)).length := rfl
  have e2 : (rulT (PG g) (pcG g) 2).length = (rulT (PG g) (pcG g) 1).length + (1 + (rowT (PG g 1) (pcG g 1 + 1)).length) := by
    show (rulT (PG g) (pcG g) 1 ++ ([124] ++ rowT (PG g 1) (pcG g 1 + 1))).length = _
    rw [List.length_append, List.length_append]; rfl
  have e3 : (rulT (PG g) (pcG g) 3).length = (rulT (PG g) (pcG g) 2).length + (1 + (rowT (PG g 2) (pcG g 2 + 1)).length) := by
    show (rulT (PG g) (pcG g) 2 ++ ([124] ++ rowT (PG g 2) (pcG g 2 + 1))).length = _
    rw [List.length_append, List.length_append]; rfl
  omega
theorem rulT_le (g : Int32) {r : Nat} (hr : r < 3) : (rulT (PG g) (pcG g) (r + 1)).length ≤ 55 := by
  obtain ⟨h1, h2, h3⟩ := rulT_len g
  have hc : r = 0 ∨ r = 1 ∨ r = 2 := by omega
  rcases hc with rfl | rfl | rfl
  · exact Nat.le_trans h1 (by omega)
  · exact Nat.le_trans h2 (by omega)
  · exact h3
theorem write_part {N : Nat} (hN : 5000 ≤ N) {Vp0 : Pd} {Vn : St} {Vh : Hb} {k0 k1 k2 k3 k4 k5 : St} {g r p h : Int32} {f : Fn} {l : List Int32} {K4 K38} (hl : (l ++ ptx (prtOf h)).length ≤ 60) :
    b_L_write_75 N Vp0 Vn Vh k0 k1 k2 k3 k4 k5 g K4 K38 (pdW f l, r, p, h) = K38 (pdW f (l ++ ptx (prtOf h)), 1, r, p + 1) := by
  have e1 : f_L_letter h = some (prtOf h).2.2.1 := (letter_ok _).1
  have e2 : f_L_letter (h >>> ((7 : Int32) &&& 31)) = some (prtOf h).2.2.2 := (letter_ok _).1
  have e3 := isNot_ok h
  have e4 := isTwo_ok h
  have hq := prtOf_ok h
  generalize prtOf h = q at *
  obtain ⟨nt, tw, c1, c2⟩ := q
  have ty : ∀ (l : List Int32) (c : Int32), c ∈ sgL → l.length < 60 → f_L_type N (pdW f l) Vn Vh k0 k1 k2 k3 k4 k5 c = some (1, pdW f (l ++ [c])) := fun l c hc hl => type_ok hN hl hc
  have a1 := sg_L hq.1
  have a2 := sg_L hq.2
  dsimp only at e1 e2 e3 e4 a1 a2
  have core : ∀ l : List Int32, (l ++ (if tw then [40, c1, 124, c2, 41] else [c1])).length ≤ 60 → b_L_write_92 N Vp0 Vn Vh k0 k1 k2 k3 k4 k5 g K4 K38 (pdW f l, r, p, h) = K38 (pdW f (l ++ (if tw then [40, c1, 124, c2, 41] else [c1])), 1, r, p + 1) := by
    intro l hl
    unfold b_L_write_92 b_L_write_109 b_L_write_126 b_L_write_172 b_L_write_177
    dsimp only
    rw [e4, Option.bind_some, e1, Option.bind_some]
    rw [List.length_append] at hl
    cases tw with
    | false =>
      simp only [Bool.false_eq_true, if_false, List.length_singleton] at hl ⊢
      rw [if_pos trivial, ty l c1 a1 (by omega), Option.bind_some]
      dsimp only
      rw [if_neg k10.mp, if_neg k10.mp, Option.bind_some, if_pos rfl]
    | true =>
      simp only [if_true, List.length_cons, List.length_nil] at hl ⊢
      rw [if_neg k10.mp, ty l 40 (by decide) (by omega), Option.bind_some]
      dsimp only
      rw [if_neg k10.mp, Option.bind_some, ty _ c1 a1 (by rw [List.length_append]; simp; omega), Option.bind_some]
      dsimp only
      rw [if_neg k10.mp, if_neg k10.mp, Option.bind_some, if_neg k10.mp, ty _ 124 (by decide) (by rw [List.length_append, List.length_append]; simp; omega), Option.bind_some]
      dsimp only
      rw [if_neg k10.mp, e2, Option.bind_some, ty _ c2 a2 (by rw [List.length_append, List.length_append, List.length_append]; simp; omega), Option.bind_some]
      dsimp only
      rw [if_neg k10.mp, ty _ 41 (by decide) (by rw [List.length_append, List.length_append, List.length_append, List.length_append]; simp; omega), Option.bind_some]
      dsimp only
      rw [if_neg k10.mp, List.append_assoc, List.append_assoc, List.append_assoc, List.append_assoc]; rfl
  unfold b_L_write_75 ptx
  dsimp only
  unfold ptx at hl
  dsimp only at hl
  rw [e3, Option.bind_some]
  cases nt with
  | false =>
    simp only [Bool.false_eq_true, if_false, List.nil_append] at hl ⊢
    rw [if_pos trivial, core l hl]
  | true =>
    simp only [if_true] at hl ⊢
    rw [List.length_append, List.length_append] at hl
    simp only [List.length_singleton] at hl
    rw [if_neg k10.mp, ty l 33 (by decide) (by omega), Option.bind_some]
    dsimp only
    rw [if_neg k10.mp, core _ (by rw [List.length_append, List.length_append]; simp only [List.length_singleton]; omega), List.append_assoc]
theorem rulT_ge (P : Nat → Nat → Prt) (pc : Nat → Nat) (r : Nat) : ∀ p, p ≤ pc r + 1 → (rowT (P r) p).length ≤ (rowT (P r) (pc r + 1)).length := by
  have mono : ∀ a b, (rowT (P r) a).length ≤ (rowT (P r) (a + b)).length := by
    intro a b
    induction b with
    | zero => exact Nat.le_refl _
    | succ b ih =>
      refine Nat.le_trans ih ?_
      show _ ≤ (rowT (P r) (a + b) ++ _).length
      rw [List.length_append]; omega
  intro p hp
  have := mono p (pc r + 1 - p)
  rwa [show p + (pc r + 1 - p) = pc r + 1 from by omega] at this
theorem rulT_pre (P : Nat → Nat → Prt) (pc : Nat → Nat) (r : Nat) (p : Nat) (hp : p ≤ pc r + 1) : (rulT P pc r ++ ((if r = 0 then [] else [124]) ++ rowT (P r) p)).length ≤ (rulT P pc (r + 1)).length := by
  show _ ≤ (rulT P pc r ++ ((if r = 0 then [] else [124]) ++ rowT (P r) (pc r + 1))).length
  have := rulT_ge P pc r p hp
  rw [List.length_append, List.length_append, List.length_append, List.length_append]
  omega
theorem write_g {N : Nat} (hN : 5000 ≤ N) {V0 : Pd} {Vn : St} {Vh : Hb} {k0 k1 k2 k3 k4 k5 : St} (g : Int32) (f : Fn) :
    lp (b_L_write_4 N V0 Vn Vh k0 k1 k2 k3 k4 k5 g) N (pdW f [], (1 : Int32), (0 : Int32)) = some (1, pdW f (rulT (PG g) (pcG g) (rwG g + 1))) := by
  have hr := rwG_lt g
  have ty : ∀ (l : List Int32) (c : Int32), c ∈ sgL → l.length < 60 → f_L_type N (pdW f l) Vn Vh k0 k1 k2 k3 k4 k5 c = some (1, pdW f (l ++ [c])) := fun l c hc hl => type_ok hN hl hc
  refine lp_c (body := b_L_write_4 N V0 Vn Vh k0 k1 k2 k3 k4 k5 g) (fun r => (pdW f (rulT (PG g) (pcG g) r), (1 : Int32), nI r)) (rwG g + 1) _ (fun r hr' K => ?_) (fun K => ?_) (by omega)
  · have hlen := rulT_le g (show r < 3 by omega)
    have start : b_L_write_4 N V0 Vn Vh k0 k1 k2 k3 k4 k5 g K (pdW f (rulT (PG g) (pcG g) r), 1, nI r) = lp (b_L_write_38 N V0 Vn Vh k0 k1 k2 k3 k4 k5 g K) N (pdW f (rulT (PG g) (pcG g) r ++ ((if r = 0 then [] else [124]) ++ rowT (PG g r) 0)), 1, nI r, nI 0) := by
      unfold b_L_write_4 b_L_write_29 b_L_write_34
      dsimp only
      rw [rows_ok, Option.bind_some, if_neg (nI_ge hr' (by omega)), if_neg k10.mp]
      by_cases c : r = 0
      · subst c
        rw [if_pos (show nI 0 = 0 from rfl), if_pos rfl]; rfl
      · have h2 := rulT_pre (PG g) (pcG g) r 0 (by omega)
        rw [if_neg c, List.length_append] at h2
        have h3 : ([124] ++ rowT (PG g r) 0).length = 1 := rfl
        rw [if_neg (nI_ne0 (by omega) (by omega)), ty _ 124 (by decide) (by omega), Option.bind_some]
        dsimp only
        rw [if_neg k10.mp, if_neg c]; rfl
    rw [start]
    refine lp_f (body := b_L_write_38 N V0 Vn Vh k0 k1 k2 k3 k4 k5 g K) (fun p => (pdW f (rulT (PG g) (pcG g) r ++ ((if r = 0 then [] else [124]) ++ rowT (PG g r) p)), (1 : Int32), nI r, nI p)) (pcG g r + 1) _ (fun p hp K2 => ?_) (fun K2 => ?_) (by have := pcG_lt g r; omega)
    · have := pcG_lt g r
      have h2 := rulT_pre (PG g) (pcG g) r (p + 1) (by omega)
      have hq := prtOf_ok (partV g r p)
      have body : ∀ l : List Int32, rulT (PG g) (pcG g) r ++ ((if r = 0 then [] else [124]) ++ rowT (PG g r) (p + 1)) = l ++ ptx (PG g r p) → b_L_write_75 N V0 Vn Vh k0 k1 k2 k3 k4 k5 g K K2 (pdW f l, nI r, nI p, partV g r p) = K2 (pdW f (rulT (PG g) (pcG g) r ++ ((if r = 0 then [] else [124]) ++ rowT (PG g r) (p + 1))), 1, nI r, nI (p + 1)) := by
        intro l hl
        rw [hl] at h2 ⊢
        rw [write_part hN (Nat.le_trans h2 (by omega)), nI_1]; rfl
      unfold b_L_write_38
      dsimp only
      rw [partsOf_ok g (by omega), Option.bind_some, if_neg (nI_ge hp (by omega)), part_ok', Option.bind_some, if_neg k10.mp]
      have hrow : rowT (PG g r) (p + 1) = rowT (PG g r) p ++ ((if p = 0 then [] else [38]) ++ ptx (PG g r p)) := rfl
      by_cases c : p = 0
      · rw [if_pos (show nI p = 0 by rw [c]; rfl)]
        refine body _ ?_
        rw [hrow, if_pos c, List.nil_append, List.append_assoc, List.append_assoc]
      · rw [if_neg (nI_ne0 (by omega) (by omega)), ty _ 38 (by decide) (by
          rw [hrow, if_neg c, List.length_append, List.length_append, List.length_append, List.length_append] at h2
          simp only [List.length_singleton] at h2
          rw [List.length_append, List.length_append]
          omega), Option.bind_some]
        dsimp only
        rw [if_neg k10.mp]
        refine body _ ?_
        rw [hrow, if_neg c, List.append_assoc, List.append_assoc, List.append_assoc]
    · have := pcG_lt g r
      unfold b_L_write_38
      dsimp only
      rw [partsOf_ok g (by omega), Option.bind_some, if_pos (nI_le (Nat.le_refl _) (by omega)), nI_1]
      rfl
  · unfold b_L_write_4
    dsimp only
    rw [rows_ok, Option.bind_some, if_pos (nI_le (Nat.le_refl _) (by omega))]
    exact zb_ok (.inr rfl)
