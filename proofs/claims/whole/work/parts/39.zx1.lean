/-! a node more -/
theorem pv_ext {R R' : Ru} {s : Int32} {H H' : Fn} {i : Nat} (e : R'.1 i = R.1 i ∧ R'.2.1 i = R.2.1 i ∧ R'.2.2.1 i = R.2.2.1 i) (h : H' = H) : pv R' s H' i = pv R s H i := by
  obtain ⟨e1, e2, e3⟩ := e
  subst h
  unfold pv
  rw [e1, e2, e3]
theorem hv_ext {R R' : Ru} {s : Int32} : ∀ k, (∀ i, i < k → R'.1 i = R.1 i ∧ R'.2.1 i = R.2.1 i ∧ R'.2.2.1 i = R.2.2.1 i) → hv R' s k = hv R s k
  | 0, _ => rfl
  | k + 1, h => by
    have ih := hv_ext (R := R) (R' := R') (s := s) k (fun i hi => h i (by omega))
    show upd (hv R' s k) k (pv R' s (hv R' s k) k) = upd (hv R s k) k (pv R s (hv R s k) k)
    rw [pv_ext (h k (by omega)) ih, ih]
theorem lk1_ext {R R' : Ru} {n i : Nat} {H H' : Fn} {L L' : Nat → Nat} (hn : n ≤ 60) (ht : treeOK R n) (hi : i < n) (e : R'.1 i = R.1 i ∧ R'.2.1 i = R.2.1 i ∧ R'.2.2.1 i = R.2.2.1 i) (hH : ∀ j, j < i → H' j = H j) (hL : ∀ j, j < i → L' j = L j) : lk1 R' H' L' i = lk1 R H L i := by
  obtain ⟨e1, e2, e3⟩ := e
  unfold lk1
  rw [e1, e2, e3]
  rcases ht.1 i hi with ⟨h1, h2, h3⟩ | ⟨h1, a, h2, h3, h4⟩ | ⟨h1, a, b, h2, h3, h4, h5, h6⟩
  · obtain ⟨n1, n2, n3⟩ := isL_ne h1
    rw [if_neg n1, if_neg n1, if_neg n2, if_neg n2, if_neg n3, if_neg n3]
  · rw [if_pos h1, if_pos h1, h3, cl a (by omega), hL a h2]
  · rw [h5, h6, cl a (by omega), cl b (by omega), hL a h2, hL b h3, hH a h2]
theorem lk_ext {R R' : Ru} {n : Nat} {H H' : Fn} (hn : n ≤ 60) (ht : treeOK R n) (e : ∀ i, i < n → R'.1 i = R.1 i ∧ R'.2.1 i = R.2.1 i ∧ R'.2.2.1 i = R.2.2.1 i) (hH : ∀ j, j < n → H' j = H j) : ∀ k, k ≤ n → lk R' H' k = lk R H k
  | 0, _ => rfl
  | k + 1, hk => by
    have ih := lk_ext (R := R) (R' := R') hn ht e hH k (by omega)
    funext j
    show (if j = k then lk1 R' H' (lk R' H' k) k else lk R' H' k j) = (if j = k then lk1 R H (lk R H k) k else lk R H k j)
    rw [ih, lk1_ext hn ht (show k < n by omega) (e k (by omega)) (fun j hj => hH j (by omega)) (fun j _ => rfl)]
def app (R : Ru) (c a b d : Int32) (n : Nat) : Ru := (upd R.1 n c, upd R.2.1 n a, upd R.2.2.1 n b, upd R.2.2.2.1 n d, nI (n + 1), R.2.2.2.2.2)
theorem add_ok {R : Ru} {n : Nat} (e : R.2.2.2.2.1 = nI n) (hn : n < 60) {c : Int32} (hc : vp_nar .char c = c) (a b d : Int32) : f_X3_add R c a b d = some (nI n, app R c a b d n) := by
  unfold f_X3_add
  rw [e, if_pos (show nI n < (60 : Int32) from nI_lt (b := 60) hn (by decide)), ix_nI hn (by decide), ix_nI hn (by decide), ix_nI hn (by decide), ix_nI hn (by decide), cl n (by omega), hc, nI_1, nI_pred]
  rfl
theorem nar_ok {c : Int32} (h : c = 33 ∨ c = 38 ∨ c = 124 ∨ c = 40 ∨ isL c) : vp_nar .char c = c := by
  rw [vp_nar_char]
  rcases h with rfl | rfl | rfl | rfl | rfl | rfl | rfl | rfl | rfl | rfl | rfl | rfl <;> decide
def nopar (R : Ru) (n x : Nat) : Prop := ∀ p, p < n → ¬ kid R p x
theorem kid_lt {R : Ru} {n : Nat} (hn : n ≤ 60) (ht : treeOK R n) {p c : Nat} (hp : p < n) (hc : c < 60) (h : kid R p c) : c < p := by
  rcases ht.1 p hp with ⟨h1, h2, h3⟩ | ⟨h1, a, h2, h3, h4⟩ | ⟨h1, a, b, h2, h3, h4, h5, h6⟩
  · obtain ⟨n1, n2, n3⟩ := isL_ne h1
    rcases h with ⟨g, _⟩ | ⟨g | g, _⟩
    · exact absurd g n1
    · exact absurd g n2
    · exact absurd g n3
  · rcases h with ⟨_, g⟩ | ⟨g, _⟩
    · rw [h3] at g
      have := (nI_eq (by omega) (by omega)).mp g
      omega
    · rw [h1] at g
      rcases g with g | g
      · exact absurd g (by decide)
      · exact absurd g (by decide)
  · rcases h with ⟨g, _⟩ | ⟨_, g | g⟩
    · rcases h1 with h1 | h1 <;> rw [h1] at g <;> exact absurd g (by decide)
    · rw [h5] at g
      have := (nI_eq (by omega) (by omega)).mp g
      omega
    · rw [h6] at g
      have := (nI_eq (by omega) (by omega)).mp g
      omega
theorem app_kid {R : Ru} {c a b d : Int32} {n p x : Nat} (hp : p < n) : kid (app R c a b d n) p x ↔ kid R p x := by
  unfold kid app
  dsimp only
  rw [upd_n (show p ≠ n by omega), upd_n (show p ≠ n by omega), upd_n (show p ≠ n by omega)]
theorem app_kid_n {R : Ru} {c a b d : Int32} {n x : Nat} : kid (app R c a b d n) n x ↔ (c = 33 ∧ a = nI x) ∨ ((c = 38 ∨ c = 124) ∧ (a = nI x ∨ b = nI x)) := by
  unfold kid app
  dsimp only
  rw [upd_e rfl, upd_e rfl, upd_e rfl]
theorem app_ok {R : Ru} {n : Nat} {s c a b d : Int32} (hn : n < 60) (ht : treeOK R n)
    (new : (isL c ∧ a = nI 0 ∧ b = nI 0) ∨ (c = 33 ∧ ∃ x, x < n ∧ a = nI x ∧ b = nI x ∧ nopar R n x) ∨ ((c = 38 ∨ c = 124) ∧ ∃ x y, x < n ∧ y < n ∧ x ≠ y ∧ a = nI x ∧ b = nI y ∧ nopar R n x ∧ nopar R n y)) :
    treeOK (app R c a b d n) (n + 1) ∧
    (∀ j, j < n → hv (app R c a b d n) s (n + 1) j = hv R s n j) ∧
    hv (app R c a b d n) s (n + 1) n = pv (app R c a b d n) s (hv R s n) n ∧
    (∀ j, j < n → lk (app R c a b d n) (hv (app R c a b d n) s (n + 1)) (n + 1) j = lk R (hv R s n) n j) ∧
    lk (app R c a b d n) (hv (app R c a b d n) s (n + 1)) (n + 1) n = lk1 (app R c a b d n) (hv R s n) (lk R (hv R s n) n) n ∧
    (∀ x, x < n → nopar R n x → (isL c ∨ (a ≠ nI x ∧ b ≠ nI x)) → nopar (app R c a b d n) (n + 1) x) ∧
    nopar (app R c a b d n) (n + 1) n := by
  have ag : ∀ i, i < n → (app R c a b d n).1 i = R.1 i ∧ (app R c a b d n).2.1 i = R.2.1 i ∧ (app R c a b d n).2.2.1 i = R.2.2.1 i := fun i hi => ⟨upd_n (by omega), upd_n (by omega), upd_n (by omega)⟩
  have at1 : (app R c a b d n).1 n = c := upd_e rfl
  have at2 : (app R c a b d n).2.1 n = a := upd_e rfl
  have at3 : (app R c a b d n).2.2.1 n = b := upd_e rfl
  have npar : ∀ x, x < n → kid (app R c a b d n) n x → nopar R n x := by
    intro x hx hk
    rcases app_kid_n.mp hk with ⟨k1, k2⟩ | ⟨k1, k2⟩
    · rcases new with ⟨h1, _⟩ | ⟨_, y, hy, e1, _, h4⟩ | ⟨h1, _⟩
      · exact absurd k1 (isL_ne h1).1
      · rw [e1] at k2
        rw [← (nI_eq (by omega) (by omega)).mp k2]; exact h4
      · rw [k1] at h1
        rcases h1 with h1 | h1 <;> exact absurd h1 (by decide)
    · rcases new with ⟨h1, _⟩ | ⟨h1, _⟩ | ⟨_, y, z, hy, hz, hne, e1, e2, h4, h5⟩
      · rcases k1 with k1 | k1
        · exact absurd k1 (isL_ne h1).2.1
        · exact absurd k1 (isL_ne h1).2.2
      · rw [h1] at k1
        rcases k1 with k1 | k1 <;> exact absurd k1 (by decide)
      · rcases k2 with k2 | k2
        · rw [e1] at k2
          rw [← (nI_eq (by omega) (by omega)).mp k2]; exact h4
        · rw [e2] at k2
          rw [← (nI_eq (by omega) (by omega)).mp k2]; exact h5
  have klt : ∀ x, x < 60 → kid (app R c a b d n) n x → x < n := by
    intro x hx hk
    rcases app_kid_n.mp hk with ⟨k1, k2⟩ | ⟨k1, k2⟩
    · rcases new with ⟨h1, _⟩ | ⟨_, y, hy, e1, _, h4⟩ | ⟨h1, _⟩
      · exact absurd k1 (isL_ne h1).1
      · rw [e1] at k2
        rw [← (nI_eq (by omega) (by omega)).mp k2]; exact hy
      · rw [k1] at h1
        rcases h1 with h1 | h1 <;> exact absurd h1 (by decide)
    · rcases new with ⟨h1, _⟩ | ⟨h1, _⟩ | ⟨_, y, z, hy, hz, hne, e1, e2, h4, h5⟩
      · rcases k1 with k1 | k1
        · exact absurd k1 (isL_ne h1).2.1
        · exact absurd k1 (isL_ne h1).2.2
      · rw [h1] at k1
        rcases k1 with k1 | k1 <;> exact absurd k1 (by decide)
      · rcases k2 with k2 | k2
        · rw [e1] at k2
          rw [← (nI_eq (by omega) (by omega)).mp k2]; exact hy
        · rw [e2] at k2
          rw [← (nI_eq (by omega) (by omega)).mp k2]; exact hz
  have tree : treeOK (app R c a b d n) (n + 1) := by
    refine ⟨fun i hi => ?_, fun i j x hi hj hx k1 k2 => ?_⟩
    · by_cases q : i = n
      · subst q
        rw [at1, at2, at3]
        rcases new with h | ⟨h1, x, hx, e1, e2, _⟩ | ⟨h1, x, y, hx, hy, hne, e1, e2, _⟩
        · exact .inl h
        · exact .inr (.inl ⟨h1, x, hx, e1, e2⟩)
        · exact .inr (.inr ⟨h1, x, y, hx, hy, hne, e1, e2⟩)
      · obtain ⟨a1, a2, a3⟩ := ag i (by omega)
        rw [a1, a2, a3]
        exact ht.1 i (by omega)
    · by_cases q : i = n
      · by_cases q2 : j = n
        · omega
        · subst q
          have := klt x hx k1
          exact absurd ((app_kid (show j < i by omega)).mp k2) (npar x this k1 j (by omega))
      · by_cases q2 : j = n
        · subst q2
          have := klt x hx k2
          exact absurd ((app_kid (show i < j by omega)).mp k1) (npar x this k2 i (by omega))
        · exact ht.2 i j x (by omega) (by omega) hx ((app_kid (by omega)).mp k1) ((app_kid (by omega)).mp k2)
  have hx := hv_ext (R := R) (R' := app R c a b d n) (s := s) n ag
  have hs : ∀ j, j < n → hv (app R c a b d n) s (n + 1) j = hv R s n j := by
    intro j hj
    show upd (hv (app R c a b d n) s n) n _ j = _
    rw [upd_n (by omega), hx]
  have ls := lk_ext (R := R) (R' := app R c a b d n) (by omega) ht ag hs n (Nat.le_refl _)
  refine ⟨tree, hs, ?_, fun j hj => ?_, ?_, fun x hx1 hx2 hx3 p hp => ?_, fun p hp hk => ?_⟩
  · show upd (hv (app R c a b d n) s n) n _ n = _
    rw [upd_e rfl, hx]
  · show (if j = n then _ else lk (app R c a b d n) (hv (app R c a b d n) s (n + 1)) n j) = _
    rw [if_neg (by omega), ls]
  · show (if n = n then lk1 (app R c a b d n) (hv (app R c a b d n) s (n + 1)) (lk (app R c a b d n) (hv (app R c a b d n) s (n + 1)) n) n else _) = _
    rw [if_pos rfl, ls]
    exact lk1_ext (by omega) tree (Nat.lt_succ_self n) ⟨rfl, rfl, rfl⟩ hs (fun j _ => rfl)
  · by_cases q : p = n
    · subst q
      intro hk
      rcases app_kid_n.mp hk with ⟨k1, k2⟩ | ⟨k1, k2⟩
      · rcases hx3 with h | ⟨h, _⟩
        · exact absurd k1 (isL_ne h).1
        · exact h k2
      · rcases hx3 with h | ⟨h, h'⟩
        · rcases k1 with k1 | k1
          · exact absurd k1 (isL_ne h).2.1
          · exact absurd k1 (isL_ne h).2.2
        · rcases k2 with k2 | k2
          · exact h k2
          · exact h' k2
    · rw [app_kid (show p < n by omega)]
      exact hx2 p (by omega)
  · have := kid_lt (by omega) tree hp (by omega) hk
    omega
