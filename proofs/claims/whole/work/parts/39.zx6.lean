/-! a whole text -/
theorem gr_pre {T : Fn} {k : Nat} {x : Nat × Nat} (h : gr T (k + 1) = some x) : ∃ y, gr T k = some y ∧ grs (T k) y.1 y.2 = some x := by
  have h' : (gr T k).bind (fun y => grs (T k) y.1 y.2) = some x := h
  cases g : gr T k with
  | none => rw [g] at h'; cases h'
  | some y => rw [g] at h'; exact ⟨y, rfl, h'⟩
theorem gr_all {T : Fn} : ∀ (m : Nat) (x : Nat × Nat), gr T m = some x → ∀ k, k ≤ m → ∃ y, gr T k = some y
  | 0, x, h, k, hk => ⟨x, by rw [show k = 0 by omega]; exact h⟩
  | m + 1, x, h, k, hk => by
    by_cases e : k = m + 1
    · subst e; exact ⟨x, h⟩
    · obtain ⟨y, hy, _⟩ := gr_pre h
      exact gr_all m y hy k (by omega)
def Fin1 (T : Fn) (s len : Nat) (M : Md) (o1 : Rd × Ru) (o2 : Md) : Prop := ∃ (n : Nat) (wt fr va de lo ops : Fn), o2 = sq M va de lo (nI 1) ops (nI 0) ∧ Sim s 0 1 n wt fr o1.2 va de lo ops ∧ n = ct gn T len ∧ 1 ≤ n ∧ fr 0 = nI (n - 1) ∧ o1.2.2.2.2.2.2 = lmt T len
theorem read_run {T Tt : Fn} {len nt N N2 s : Nat} {V : Rd} {M : Md} (hN : 5000 ≤ N) (hN2 : 5000 ≤ N2) (hs : s < 256) (hl : len ≤ 60) (hnt : len ≤ nt ∧ nt < 2 ^ 31) (hT : ∀ k, k < len → Tt k = T k) (hg : gr T len = some (0, 0)) (e22 : M.1 22 = nI len) (ek : ∀ k, k < len → M.1 (23 + k) = T k) :
    ∃ o1 o2, f_X2_read N V nt Tt (nI len) = some o1 ∧ f_X6_workOut N2 M (nI s) = some o2 ∧ Fin1 T s len M o1 o2 := by
  refine lp_2 (b1 := b_X2_read_21 N V nt Tt (nI len)) (b2 := b_X6_workOut_12 N2 M (nI s)) (P := fun k s1 s2 => k ≤ len ∧ ∃ (wa d : Nat) (S : Rd × Ru) (A : Md), gr T (len - k) = some (wa, d) ∧ Inv T s (len - k) wa d S A M ∧ s1 = (S.1, S.2, nI (len - k)) ∧ s2 = (A, nI (len - k))) (Q := Fin1 T s len M) ?_ len N N2 _ _ (by omega) (by omega) ⟨Nat.le_refl _, 1, 0, ((V.1, V.2.1, 0, 0), R00), sq M M.2.2.2.2.2.2.2.2.1 M.2.2.2.2.2.2.2.2.2.1 M.2.2.2.2.2.2.2.2.2.2.1 0 M.2.2.2.2.2.2.2.2.2.2.2.2.1 0, ?_, ?_, ?_, ?_⟩
  · rintro k s1 s2 ⟨hk, wa, d, S, A, hgr, hI, rfl, rfl⟩
    by_cases k0 : k = 0
    · subst k0
      rw [Nat.sub_zero] at hgr hI ⊢
      rw [hg] at hgr
      obtain ⟨rfl, rfl⟩ := Prod.mk.inj (Option.some.inj hgr)
      obtain ⟨w, f, n, j, wt, fr, R, va, de, lo, ops, rfl, hS, h1, h2, h3, h4, h5, hD⟩ := hI
      have hcn := ct_gn T len
      rcases hD with ⟨hw0, _⟩ | ⟨_, hf, hn1, hr, hd⟩
      · omega
      · obtain ⟨w', f', n', fr', R', va', de', lo', g1, g2, g3, g4, g5, g6, g7, g8, g9, g10, g11, g12⟩ := join_from (M := M) (p0 := 1) (.inl rfl) hN hN2 h5 hS (by omega) hf (by omega) hn1 hr hd
        have w0 : w' = 0 := by
          by_cases z : w' = 0
          · exact z
          · obtain ⟨v, rfl⟩ : ∃ v, w' = v + 1 := ⟨w' - 1, by omega⟩
            have hv40 : wt v = 40 := st_40 (g5.2.1 v (by omega)).2 (g6.resolve_left z)
            have y1 : ct gp wt (v + 1) = ct gp wt v + 1 := by
              show ct gp wt v + gp (wt v) = _
              rw [hv40]; rfl
            omega
        subst w0
        have f1 : f' = 1 := g8
        subst f1
        refine .inl ⟨((wt, fr', nI 0, nI 1), R'), sq M va' de' lo' (nI 1) ops (nI 0), fun K => ?_, fun K => ?_, n', wt, fr', va', de', lo', ops, rfl, g5, g7.trans h1, g10, g11, g12.trans h4⟩
        · unfold b_X2_read_21 b_X2_read_49
          refine (if_pos (Int32.le_refl _)).trans ?_
          dsimp only
          rw [g3, Option.bind_some]
        · unfold b_X6_workOut_12
          refine (if_pos (show M.1 (Int32.toNatClampNeg 22) ≤ nI len from by rw [show Int32.toNatClampNeg 22 = 22 from by decide, e22]; exact Int32.le_refl _)).trans ?_
          dsimp only
          rw [g4, Option.bind_some]
    · have hlt : len - k < len := by omega
      obtain ⟨y, hy⟩ := gr_all len _ hg (len - k + 1) (by omega)
      obtain ⟨z, hz, hstep⟩ := gr_pre hy
      rw [hgr] at hz
      obtain rfl := Option.some.inj hz
      obtain ⟨S', A', t1, t2, t3⟩ := take_step (N := N) (N2 := N2) (wa' := y.1) (d' := y.2) hN hN2 hs (show len - k < 60 by omega) hI hstep (by rw [e22]; exact nI_ge hlt (by omega)) (ek _ hlt)
      have ek1 : len - k + 1 = len - (k - 1) := by omega
      refine .inr ⟨k - 1, (S'.1, S'.2, nI (len - k + 1)), (A', nI (len - k + 1)), by omega, ⟨by omega, y.1, y.2, S', A', by rw [← ek1]; exact hy, by rw [← ek1]; exact t3, by rw [ek1], by rw [ek1]⟩, fun K => ?_, fun K => t2 M K⟩
      unfold b_X2_read_21
      refine (if_neg (show ¬ nI len ≤ nI (len - k) from nI_ge hlt (by omega))).trans ((if_neg (show ¬ nI nt ≤ nI (len - k) from nI_ge (by omega) (by omega))).trans ?_)
      dsimp only
      rw [ix_nI (show len - k < nt by omega) hnt.2, cl (len - k) (by omega), hT _ hlt, t1, Option.bind_some, nI_1]
  · rw [Nat.sub_self]; rfl
  · rw [Nat.sub_self]
    exact ⟨0, 0, 0, 0, V.1, V.2.1, R00, M.2.2.2.2.2.2.2.2.1, M.2.2.2.2.2.2.2.2.2.1, M.2.2.2.2.2.2.2.2.2.2.1, M.2.2.2.2.2.2.2.2.2.2.2.2.1, rfl, ⟨rfl, fun i hi => absurd hi (Nat.not_lt_zero _), ⟨fun i hi => absurd hi (Nat.not_lt_zero _), fun i j c hi => absurd hi (Nat.not_lt_zero _)⟩, fun _ => 0, fun k hk => absurd hk (Nat.not_lt_zero _)⟩, rfl, rfl, Nat.le_refl _, rfl, by omega, .inl ⟨rfl, rfl, rfl⟩⟩
  · rw [Nat.sub_self]; rfl
  · rw [Nat.sub_self]; rfl
theorem parts_ok {T : Fn} {len N : Nat} {M : Md} (hN : 5000 ≤ N) (hl : len ≤ 60) (e22 : M.1 22 = nI len) (ek : ∀ k, k < len → M.1 (23 + k) = T k) : f_X6_parts N M = some (nI (ct gn T len)) := by
  have h22 : Int32.toNatClampNeg (22 : Int32) = 22 := by decide
  refine lp_c (body := b_X6_parts_4 N M) (fun k => (nI (ct gn T k), nI k)) len _ (fun k hk K => ?_) (fun K => ?_) (by omega)
  · have e : (23 : Int32) + nI k = nI (23 + k) := by rw [show (23 : Int32) = nI 23 from by decide, nI_add]
    unfold b_X6_parts_4 b_X6_parts_38 b_X6_parts_43
    dsimp only
    refine (if_neg (show ¬ M.1 (Int32.toNatClampNeg 22) ≤ nI k from by rw [h22, e22]; exact nI_ge hk (by omega))).trans ?_
    rw [e, ix_nI (show 23 + k < 173 by omega) (by decide), cl (23 + k) (by omega), ek k hk, nI_1]
    have ec : ct gn T (k + 1) = ct gn T k + gn (T k) := rfl
    by_cases c : T k = 40
    · rw [if_pos c, ec, show gn (T k) = 0 from if_pos c, Int32.add_zero]; rfl
    · rw [if_neg c]
      by_cases d : T k = 41
      · rw [if_pos d, ec, show gn (T k) = 0 from (if_neg c).trans (if_pos d), Int32.add_zero]; rfl
      · rw [if_neg d, ec, show gn (T k) = 1 from (if_neg c).trans (if_neg d), nI_1]
  · unfold b_X6_parts_4
    exact if_pos (show M.1 (Int32.toNatClampNeg 22) ≤ nI len from by rw [h22, e22]; exact Int32.le_refl _)
theorem letters_ok {T : Fn} {len N : Nat} {M : Md} (hN : 5000 ≤ N) (hl : len ≤ 60) (e22 : M.1 22 = nI len) (ek : ∀ k, k < len → M.1 (23 + k) = T k) : f_X6_letters N M = some (lmt T len) := by
  have h22 : Int32.toNatClampNeg (22 : Int32) = 22 := by decide
  refine lp_c (body := b_X6_letters_4 N M) (fun k => (lmt T k, nI k)) len _ (fun k hk K => ?_) (fun K => ?_) (by omega)
  · have e : (23 : Int32) + nI k = nI (23 + k) := by rw [show (23 : Int32) = nI 23 from by decide, nI_add]
    unfold b_X6_letters_4 b_X6_letters_59
    dsimp only
    refine (if_neg (show ¬ M.1 (Int32.toNatClampNeg 22) ≤ nI k from by rw [h22, e22]; exact nI_ge hk (by omega))).trans ?_
    rw [e, ix_nI (show 23 + k < 173 by omega) (by decide), cl (23 + k) (by omega), ek k hk, nI_1]
    have ec : lmt T (k + 1) = lmt T k ||| lmb (T k) := rfl
    unfold lmb lmk at ec
    rcases letr01 (T k) with h | h
    · rw [h, if_neg (by decide)] at ec
      rw [h, Option.bind_some, if_pos rfl, ec]
    · rw [h, if_pos rfl] at ec
      rw [h, Option.bind_some, if_neg (by decide), ec]
      by_cases c : T k < 97
      · rw [if_pos c, if_pos c]
      · rw [if_neg c, if_neg c]
  · unfold b_X6_letters_4
    exact if_pos (show M.1 (Int32.toNatClampNeg 22) ≤ nI len from by rw [h22, e22]; exact Int32.le_refl _)
theorem read_ok {T Tt : Fn} {len nt N : Nat} {V : Rd} (hN : 5000 ≤ N) (hl : len ≤ 60) (hnt : len ≤ nt ∧ nt < 2 ^ 31) (hT : ∀ k, k < len → Tt k = T k) (hg : gr T len = some (0, 0)) :
    ∃ o, f_X2_read N V nt Tt (nI len) = some o ∧ SemA o.2 len T ∧ o.2.2.2.2.2.1 = nI (ct gn T len) := by
  have hl1 : 1 ≤ len := by
    by_cases z : len = 0
    · subst z
      have : (some (1, 0) : Option (Nat × Nat)) = some (0, 0) := hg
      exact absurd this (by decide)
    · omega
  have w0 := read_run (N := N) (N2 := 5000) (s := 0) (V := V) (M := (fun x => if x = 22 then nI len else T (x - 23), (fun _ => 0), (fun _ => 0), (fun _ => 0), 0, (fun _ => 0), (fun _ => 0), 0, (fun _ => 0), (fun _ => 0), (fun _ => 0), 0, (fun _ => 0), 0)) hN (Nat.le_refl _) (by omega) hl hnt hT hg (show (if (22 : Nat) = 22 then nI len else T (22 - 23)) = nI len from if_pos rfl) (fun k _ => by
    show (if 23 + k = 22 then nI len else T (23 + k - 23)) = T k
    rw [if_neg (by omega), show 23 + k - 23 = k by omega])
  obtain ⟨o, -, ho, -, n, wt, fr, va, de, lo, ops, -, hS, hn, hn1, -, hlet⟩ := w0
  have ecount : o.2.2.2.2.2.1 = nI (ct gn T len) := by rw [← hn]; exact hS.1
  refine ⟨o, ho, ⟨hl1, hl, fun N2 hN2 M e22 ek => ⟨(parts_ok hN2 hl e22 ek).trans (by rw [ecount]), (letters_ok hN2 hl e22 ek).trans (by rw [hlet]), fun s hs => ?_⟩⟩, ecount⟩
  obtain ⟨o', M2, ho', hw, n', wt', fr', va', de', lo', ops', rfl, hS', hn', hn1', hr', hlet'⟩ := read_run (N := N) (N2 := N2) (s := s) (V := V) (M := M) hN hN2 hs hl hnt hT hg e22 ek
  rw [ho] at ho'
  obtain rfl := Option.some.inj ho'
  have hcn := ct_gn T len
  obtain ⟨h1, h2, h3, F, h4⟩ := hS'
  obtain ⟨r1, r2, r3, r4, r5, r6, r7, r8⟩ := h4 0 (by omega)
  have eF : F 0 = n' - 1 := by
    rw [hr'] at r2
    exact ((nI_eq (by omega) (by omega)).mp r2).symm
  rw [eF] at r3 r5 r6
  obtain ⟨d1, d2⟩ := holds_ok (N := N2) hN2 hs (show 1 ≤ n' ∧ n' ≤ 60 from ⟨hn1', by omega⟩) h1 (fun i hi => tree_node (by omega) h3 hi)
  refine ⟨va' 0, lo' 0, _, hw, ⟨rfl, rfl, rfl, rfl, rfl, rfl, rfl, rfl⟩, rfl, rfl, ?_, r4, ?_, ?_⟩
  · unfold f_X3_depth
    have e : o.2.2.2.2.2.1 - (1 : Int32) = nI (n' - 1) := by
      rw [h1]
      have := nI_pred (n' - 1)
      rw [show n' - 1 + 1 = n' from by omega] at this
      exact this
    rw [e, depthOf_ok h1 (by omega) (by omega), Option.bind_some, ← r5]
    rfl
  · rw [r3]; exact d1
  · rw [r6]
    exact lookedAt_ok hN2 hs ⟨hn1', by omega⟩ h1 h3
