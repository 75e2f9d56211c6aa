/-! one tick: the disagreements -/
theorem lp_f {S O : Type} {body : (S → Option O) → S → Option O} (f : Nat → S) (n : Nat) (A : Option O)
    (step : ∀ k, k < n → ∀ K, body K (f k) = K (f (k + 1))) (fin : ∀ K, body K (f n) = A) {N : Nat} (hN : n < N) : lp body N (f 0) = A := by
  have key : ∀ j, j ≤ n → ∀ N, j < N → lp body N (f (n - j)) = A := by
    intro j
    induction j with
    | zero =>
      intro _ N hN
      obtain ⟨m, rfl⟩ : ∃ m, N = m + 1 := ⟨N - 1, by omega⟩
      exact fin _
    | succ j ih =>
      intro hj N hN
      obtain ⟨m, rfl⟩ : ∃ m, N = m + 1 := ⟨N - 1, by omega⟩
      show body (lp body m) (f (n - (j + 1))) = A
      rw [step _ (by omega), show n - (j + 1) + 1 = n - j from by omega]
      exact ih (by omega) m (by omega)
  have := key n (Nat.le_refl _) N hN
  rwa [Nat.sub_self] at this
theorem dis_tab : ∀ j, j < 4 → ∀ s, s < 256 → ((((nI s >>> (((2 : Int32) * nI j) &&& 31)) &&& (3 : Int32)) = (1 : Int32) ∨ ((nI s >>> (((2 : Int32) * nI j) &&& 31)) &&& (3 : Int32)) = (2 : Int32)) ↔ ¬ ((nI s >>> ((((2 : Int32) * nI j) + (0 : Int32)) &&& 31)) &&& (1 : Int32)) = ((nI s >>> ((((2 : Int32) * nI j) + (1 : Int32)) &&& 31)) &&& (1 : Int32))) := by decide +kernel
def nv (s j : Nat) (x : Int32) : Int32 := if ((nI s >>> ((((2 : Int32) * nI j) + (0 : Int32)) &&& 31)) &&& (1 : Int32)) = ((nI s >>> ((((2 : Int32) * nI j) + (1 : Int32)) &&& 31)) &&& (1 : Int32)) then 0 else x + 1
def dcl (d : Fn) (s k : Nat) : Fn := fun j => if j < k then nv s j (d j) else d j
def drf (z : Fn) (s k : Nat) : Fn := fun x => if 12 ≤ x ∧ x < 12 + k then nv s (x - 12) (z x) else z x
theorem dcl_0 (d : Fn) (s : Nat) : dcl d s 0 = d := by funext x; exact if_neg (by omega)
theorem drf_0 (d : Fn) (s : Nat) : drf d s 0 = d := by funext x; exact if_neg (by omega)
theorem dcl_s (d : Fn) (s k : Nat) : upd (dcl d s k) k (nv s k (d k)) = dcl d s (k + 1) := by
  funext x
  unfold dcl
  by_cases h : x = k
  · subst h; rw [upd_e rfl, if_pos (by omega)]
  · rw [upd_n h]
    by_cases h2 : x < k
    · rw [if_pos h2, if_pos (by omega)]
    · rw [if_neg h2, if_neg (by omega)]
theorem drf_s (d : Fn) (s k : Nat) : upd (drf d s k) (12 + k) (nv s k (d (12 + k))) = drf d s (k + 1) := by
  funext x
  unfold drf
  by_cases h : x = 12 + k
  · subst h; rw [upd_e rfl, if_pos (by omega), show 12 + k - 12 = k from by omega]
  · rw [upd_n h]
    by_cases h2 : 12 ≤ x ∧ x < 12 + k
    · rw [if_pos h2, if_pos (by omega)]
    · rw [if_neg h2, if_neg (by omega)]
theorem dcl_k (d : Fn) (s k : Nat) : dcl d s k k = d k := if_neg (by omega)
theorem drf_k (d : Fn) (s k : Nat) : drf d s k (12 + k) = d (12 + k) := if_neg (by omega)
theorem drf_o (d : Fn) (s k : Nat) {x : Nat} (h : x < 12 ∨ 12 + k ≤ x) : drf d s k x = d x := if_neg (by omega)
theorem q_dis {N s : Nat} (hN : 5000 ≤ N) (V : St) (hs : s < 256) (e1 : V.2.2.2.2.2.2.2.2.1 = nI s) : f_X4_countDisagreements N V = some (V.1, V.2.1, V.2.2.1, V.2.2.2.1, dcl V.2.2.2.2.1 s 4, V.2.2.2.2.2) := by
  have h1 := lp_f (body := b_X4_countDisagreements_2 N V) (fun k => ((V.1, V.2.1, V.2.2.1, V.2.2.2.1, dcl V.2.2.2.2.1 s k, V.2.2.2.2.2), nI k)) 4 (some (V.1, V.2.1, V.2.2.1, V.2.2.2.1, dcl V.2.2.2.2.1 s 4, V.2.2.2.2.2)) (by
    intro k hk K
    unfold b_X4_countDisagreements_2 f_X4_complains
    dsimp only
    rw [if_neg (show ¬ (4 : Int32) ≤ nI k from nI_ge hk (by decide)), e1, Option.bind_some, Option.bind_some]
    by_cases c : ((nI s >>> ((((2 : Int32) * nI k) + (0 : Int32)) &&& 31)) &&& (1 : Int32)) = ((nI s >>> ((((2 : Int32) * nI k) + (1 : Int32)) &&& 31)) &&& (1 : Int32))
    · rw [if_pos c]
      unfold b_X4_countDisagreements_27 b_X4_countDisagreements_49
      dsimp only
      rw [if_pos rfl, ix_nI hk (by decide), cl k (by omega), nI_1, ← dcl_s, show nv s k (V.2.2.2.2.1 k) = 0 from if_pos c]
    · rw [if_neg c]
      unfold b_X4_countDisagreements_27 b_X4_countDisagreements_49
      dsimp only
      rw [if_neg (show ¬ (1 : Int32) = 0 by decide), ix_nI hk (by decide), ix_nI hk (by decide), cl k (by omega), dcl_k, nI_1, ← dcl_s, show nv s k (V.2.2.2.2.1 k) = V.2.2.2.2.1 k + 1 from if_neg c]) (by
    intro K
    unfold b_X4_countDisagreements_2
    rw [if_pos (show (4 : Int32) ≤ nI 4 by decide)]) (N := N) (by omega)
  rw [dcl_0] at h1
  exact h1
theorem q_disag {V : Md} {s k : Nat} (hk : k < 4) (hs : s < 256) (e : V.1 11 = nI s) : f_X6_disagrees V (nI k) = some (if ((nI s >>> ((((2 : Int32) * nI k) + (0 : Int32)) &&& 31)) &&& (1 : Int32)) = ((nI s >>> ((((2 : Int32) * nI k) + (1 : Int32)) &&& 31)) &&& (1 : Int32)) then 0 else 1) := by
  have ht := dis_tab k hk s hs
  unfold f_X6_disagrees b_X6_disagrees_24 b_X6_disagrees_29
  rw [c_11, e]
  by_cases c : ((nI s >>> ((((2 : Int32) * nI k) + (0 : Int32)) &&& 31)) &&& (1 : Int32)) = ((nI s >>> ((((2 : Int32) * nI k) + (1 : Int32)) &&& 31)) &&& (1 : Int32))
  · have n1 := fun e => (ht.mp (.inl e)) c
    have n2 := fun e => (ht.mp (.inr e)) c
    rw [if_neg n1, if_neg n2, if_pos c]
    exact zb_ok (.inl rfl)
  · rw [if_neg c]
    rcases ht.mpr c with h | h
    · rw [if_pos h]; exact zb_ok (.inr rfl)
    · by_cases h' : ((nI s >>> (((2 : Int32) * nI k) &&& 31)) &&& (3 : Int32)) = (1 : Int32)
      · rw [if_pos h']; exact zb_ok (.inr rfl)
      · rw [if_neg h', if_pos h]; exact zb_ok (.inr rfl)
theorem q_dis6 {N s : Nat} (hN : 5000 ≤ N) (V0 M : Md) (hs : s < 256) (e1 : M.1 11 = nI s) : b_X6_goTick_22 N V0 M = ((f_X6_loadNow N (drf M.1 s 4, M.2)).bind fun o16 => (if o16 ≤ (drf M.1 s 4 6) then b_X6_goTick_100 N V0 ((drf M.1 s 4, M.2), (drf M.1 s 4 2)) else b_X6_goTick_100 N V0 ((drf M.1 s 4, M.2), (((drf M.1 s 4 2) + (1 : Int32)) / (2 : Int32))))) := by
  have h1 := lp_f (body := b_X6_goTick_24 N V0) (fun k => ((drf M.1 s k, M.2), nI k)) 4 ((f_X6_loadNow N (drf M.1 s 4, M.2)).bind fun o16 => (if o16 ≤ (drf M.1 s 4 6) then b_X6_goTick_100 N V0 ((drf M.1 s 4, M.2), (drf M.1 s 4 2)) else b_X6_goTick_100 N V0 ((drf M.1 s 4, M.2), (((drf M.1 s 4 2) + (1 : Int32)) / (2 : Int32))))) (by
    intro k hk K
    have hq : (12 : Int32) + nI k = nI (12 + k) := nI_add 12 k
    have hd := q_disag (V := (drf M.1 s k, M.2)) hk hs ((drf_o M.1 s k (by omega)).trans e1)
    unfold b_X6_goTick_24
    dsimp only
    rw [if_neg (show ¬ (4 : Int32) ≤ nI k from nI_ge hk (by decide)), hd, Option.bind_some]
    by_cases c : ((nI s >>> ((((2 : Int32) * nI k) + (0 : Int32)) &&& 31)) &&& (1 : Int32)) = ((nI s >>> ((((2 : Int32) * nI k) + (1 : Int32)) &&& 31)) &&& (1 : Int32))
    · rw [if_pos c, if_pos rfl]
      unfold b_X6_goTick_60
      dsimp only
      rw [hq, ix_nI (show 12 + k < 173 by omega) (by decide), cl (12 + k) (by omega), nI_1, ← drf_s, show nv s k (M.1 (12 + k)) = 0 from if_pos c]
    · rw [if_neg c, if_neg (show ¬ (1 : Int32) = 0 by decide)]
      unfold b_X6_goTick_60
      dsimp only
      rw [hq, ix_nI (show 12 + k < 173 by omega) (by decide), ix_nI (show 12 + k < 173 by omega) (by decide), cl (12 + k) (by omega), drf_k, nI_1, ← drf_s, show nv s k (M.1 (12 + k)) = M.1 (12 + k) + 1 from if_neg c]) (by
    intro K
    unfold b_X6_goTick_24
    rw [if_pos (show (4 : Int32) ≤ nI 4 by decide)]
    dsimp only
    rw [c_6, c_2]) (N := N) (by omega)
  rw [drf_0] at h1
  exact h1
theorem r_dis {T : Nat} {R : Ru} {V : St} {z : Fn} {s : Nat} (h : RelSt T R V z) (es : z 11 = nI s) (hs6 : s < 256) : RelSt T R (V.1, V.2.1, V.2.2.1, V.2.2.2.1, dcl V.2.2.2.2.1 s 4, V.2.2.2.2.2) (drf z s 4) := by
  obtain ⟨p, t, s', a1, a2, a3, b1, b2, b3, b4, b5, b6, c1, c2, c3, c4, c5, c6, c7, c8, n, hn, hs⟩ := h
  have e : ∀ k, k < 12 ∨ 16 ≤ k → drf z s 4 k = z k := fun k hk => drf_o z s 4 (by omega)
  refine ⟨p, t, s', a1, a2, a3, b1, (e 10 (by omega)).trans b2, b3, (e 7 (by omega)).trans b4, b5, (e 11 (by omega)).trans b6, fun j hj => (c1 j hj).trans (e j (by omega)).symm, ?_, ?_, ?_, ?_, ?_, ?_, fun j hj => (c8 j hj).trans (e _ (by omega)).symm, n, (e 22 (by omega)).trans hn, ?_⟩
  · rw [e 0 (by omega), e 1 (by omega), e 2 (by omega), e 3 (by omega), e 4 (by omega), e 5 (by omega), e 6 (by omega)]; exact c2
  · rw [e 8 (by omega)]; exact c3
  · rw [e 9 (by omega), e 8 (by omega)]; exact c4
  · intro j hj
    show dcl V.2.2.2.2.1 s 4 j = drf z s 4 (12 + j)
    unfold dcl drf
    rw [if_pos hj, if_pos (by omega), c5 j hj, show 12 + j - 12 = j from by omega]
  · rw [e 16 (by omega), e 17 (by omega), e 18 (by omega), e 19 (by omega), e 20 (by omega), e 21 (by omega)]; exact c6
  · intro i hi
    have := c7 i hi
    rw [e (83 + 3 * i) (by omega), e (84 + 3 * i) (by omega), e (85 + 3 * i) (by omega)]
    exact this
  · obtain ⟨h1, h2, h3⟩ := hs
    refine ⟨h1, h2, fun N hN M hM hT => h3 N hN M hM (fun k hk => (hT k hk).trans (e _ (by omega)))⟩
