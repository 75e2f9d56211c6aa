/-! PURE PART: rows taken over from whole (wip/p26/gen/pick.py) -/
theorem lp_m {S O : Type} {body : (S → Option O) → S → Option O} {P : Nat → S → Prop} {Q : O → Prop}
    (step : ∀ k s, P k s → (∃ o, (∀ K, body K s = some o) ∧ Q o) ∨ (∃ j s', j < k ∧ P j s' ∧ ∀ K, body K s = K s')) :
    ∀ (N k : Nat) (s : S), k < N → P k s → ∃ o, lp body N s = some o ∧ Q o := by
  intro N
  induction N with
  | zero => intro k s h; exact absurd h (Nat.not_lt_zero _)
  | succ N ih =>
    intro k s h hP
    rcases step k s hP with ⟨o, ho, hQ⟩ | ⟨j, s', hj, hP', e⟩
    · exact ⟨o, ho _, hQ⟩
    · obtain ⟨o, ho, hQ⟩ := ih j s' (by omega) hP'
      exact ⟨o, (e (lp body N)).trans ho, hQ⟩
theorem lp_c {S O : Type} {body : (S → Option O) → S → Option O} (f : Nat → S) (n : Nat) (o : O)
    (step : ∀ k, k < n → ∀ K, body K (f k) = K (f (k + 1))) (fin : ∀ K, body K (f n) = some o) {N : Nat} (hN : n < N) : lp body N (f 0) = some o := by
  obtain ⟨o', h1, h2⟩ := lp_m (body := body) (P := fun k s => k ≤ n ∧ s = f (n - k)) (Q := fun x => x = o) (by
    rintro k s ⟨hk, rfl⟩
    by_cases h0 : k = 0
    · subst h0
      exact .inl ⟨o, fin, rfl⟩
    · refine .inr ⟨k - 1, f (n - (k - 1)), by omega, ⟨by omega, rfl⟩, fun K => ?_⟩
      have := step (n - k) (by omega) K
      rw [this, show n - k + 1 = n - (k - 1) from by omega]) N n (f 0) hN ⟨Nat.le_refl _, by rw [Nat.sub_self]⟩
  rw [h1, h2]
theorem ix_nI {α : Type} {a n : Nat} {A : Option α} (h : a < n) (hn : n < 2 ^ 31) : ix (nI a) n A = A := by
  unfold ix
  rw [if_neg (nI_in h hn)]
theorem ix_of {α : Type} {z : Int32} {a n : Nat} {A : Option α} (e : z = nI a) (h : a < n) (hn : n < 2 ^ 31) : ix z n A = A := by
  rw [e, ix_nI h hn]
theorem cl (k : Nat) (h : k < 2 ^ 31) : Int32.toNatClampNeg (nI k) = k := nI_clamp h
theorem cpy_in {f g : Fn} {n k : Nat} (h : k < n) : va_cpy f g (Int32.toNatClampNeg (0 : Int32)) (Int32.toNatClampNeg (0 : Int32)) n k = f k := by
  unfold va_cpy
  rw [show Int32.toNatClampNeg (0 : Int32) = 0 from by decide, if_pos ⟨Nat.zero_le _, by omega⟩, Nat.zero_add, Nat.sub_zero]
theorem copy_ok (D S : St) : ∃ C, f_X4_copy D S = some C ∧ C.2.2.2.2.2.2 = S.2.2.2.2.2.2 ∧ (∀ j, j < 7 → C.1 j = S.1 j) ∧ (∀ j, j < 20 → C.2.1 j = S.2.1 j) ∧ (∀ j, j < 20 → C.2.2.1 j = S.2.2.1 j) ∧ (∀ j, j < 20 → C.2.2.2.1 j = S.2.2.2.1 j) ∧ (∀ j, j < 4 → C.2.2.2.2.1 j = S.2.2.2.2.1 j) ∧ (∀ j, j < 30 → C.2.2.2.2.2.1 j = S.2.2.2.2.2.1 j) :=
  ⟨_, rfl, rfl, fun _ h => cpy_in h, fun _ h => cpy_in h, fun _ h => cpy_in h, fun _ h => cpy_in h, fun _ h => cpy_in h, fun _ h => cpy_in h⟩
def KK (k0 k1 k2 k3 k4 k5 : St) (k : Nat) : St := if k = 0 then k0 else if k = 1 then k1 else if k = 2 then k2 else if k = 3 then k3 else if k = 4 then k4 else k5
theorem record_c (Vh : Hb) (k0 k1 k2 k3 k4 k5 Vn : St) {l h : Nat} (hl : l < 6) (hh : h ≤ 6) (e1 : Vh.1 = nI l) (e2 : Vh.2 = nI h) :
    ∃ o C, f_X0_record Vh k0 k1 k2 k3 k4 k5 Vn = some o ∧ f_X4_copy (KK k0 k1 k2 k3 k4 k5 ((l + 1) % 6)) Vn = some C ∧ o.1.1 = nI ((l + 1) % 6) ∧ o.1.2 = nI (if h = 6 then 6 else h + 1) ∧
      ∀ k, k < 6 → KK o.2.1 o.2.2.1 o.2.2.2.1 o.2.2.2.2.1 o.2.2.2.2.2.1 o.2.2.2.2.2.2 k = if k = (l + 1) % 6 then C else KK k0 k1 k2 k3 k4 k5 k := by
  have eh : (if Vh.2 + (1 : Int32) < (6 : Int32) then Vh.2 + (1 : Int32) else (6 : Int32)) = nI (if h = 6 then 6 else h + 1) := by
    rw [e2, nI_1]
    by_cases h6 : h = 6
    · subst h6; decide
    · rw [if_neg h6]
      by_cases h5 : h = 5
      · subst h5; decide
      · rw [if_pos (show nI (h + 1) < (6 : Int32) from nI_lt (show h + 1 < 6 by omega) (by decide))]
  unfold f_X0_record
  rw [e1]
  have hc : l = 0 ∨ l = 1 ∨ l = 2 ∨ l = 3 ∨ l = 4 ∨ l = 5 := by omega
  rcases hc with rfl | rfl | rfl | rfl | rfl | rfl
  · rw [if_neg (by decide)]
    obtain ⟨C, hC, -⟩ := copy_ok k1 Vn
    refine ⟨_, C, by unfold b_X0_record_22; rw [if_neg (by decide), if_pos (by decide), hC, eh]; rfl, hC, rfl, rfl, fun k hk => ?_⟩
    unfold KK; by_cases hk1 : k = 1
    · subst hk1; rfl
    · rw [if_neg (show ¬ k = (0 + 1) % 6 from hk1)]; simp [hk1]
  · rw [if_neg (by decide)]
    obtain ⟨C, hC, -⟩ := copy_ok k2 Vn
    refine ⟨_, C, by unfold b_X0_record_22; rw [if_neg (by decide), if_neg (by decide), if_pos (by decide), hC, eh]; rfl, hC, rfl, rfl, fun k hk => ?_⟩
    unfold KK; by_cases hk1 : k = 2
    · subst hk1; rfl
    · rw [if_neg (show ¬ k = (1 + 1) % 6 from hk1)]; simp [hk1]
  · rw [if_neg (by decide)]
    obtain ⟨C, hC, -⟩ := copy_ok k3 Vn
    refine ⟨_, C, by unfold b_X0_record_22; rw [if_neg (by decide), if_neg (by decide), if_neg (by decide), if_pos (by decide), hC, eh]; rfl, hC, rfl, rfl, fun k hk => ?_⟩
    unfold KK; by_cases hk1 : k = 3
    · subst hk1; rfl
    · rw [if_neg (show ¬ k = (2 + 1) % 6 from hk1)]; simp [hk1]
  · rw [if_neg (by decide)]
    obtain ⟨C, hC, -⟩ := copy_ok k4 Vn
    refine ⟨_, C, by unfold b_X0_record_22; rw [if_neg (by decide), if_neg (by decide), if_neg (by decide), if_neg (by decide), if_pos (by decide), hC, eh]; rfl, hC, rfl, rfl, fun k hk => ?_⟩
    unfold KK; by_cases hk1 : k = 4
    · subst hk1; rfl
    · rw [if_neg (show ¬ k = (3 + 1) % 6 from hk1)]; simp [hk1]
  · rw [if_neg (by decide)]
    obtain ⟨C, hC, -⟩ := copy_ok k5 Vn
    refine ⟨_, C, by unfold b_X0_record_22; rw [if_neg (by decide), if_neg (by decide), if_neg (by decide), if_neg (by decide), if_neg (by decide), if_pos (by decide), hC, eh]; rfl, hC, rfl, rfl, fun k hk => ?_⟩
    unfold KK; by_cases hk1 : k = 5
    · subst hk1; rfl
    · have : k < 5 := by omega
      rw [if_neg (show ¬ k = (4 + 1) % 6 from hk1)]
      have hk2 : k = 0 ∨ k = 1 ∨ k = 2 ∨ k = 3 ∨ k = 4 := by omega
      rcases hk2 with rfl | rfl | rfl | rfl | rfl <;> rfl
  · rw [if_pos (by decide)]
    obtain ⟨C, hC, -⟩ := copy_ok k0 Vn
    refine ⟨_, C, by unfold b_X0_record_22; rw [if_pos (by decide), hC, eh]; rfl, hC, rfl, rfl, fun k hk => ?_⟩
    unfold KK; by_cases hk1 : k = 0
    · subst hk1; rfl
    · rw [if_neg (show ¬ k = (5 + 1) % 6 from hk1)]; simp [hk1]
theorem upd_n {f : Fn} {k x : Nat} {v : Int32} (h : x ≠ k) : upd f k v x = f x := if_neg h
theorem upd_e {f : Fn} {k x : Nat} {v : Int32} (h : x = k) : upd f k v x = v := if_pos h
theorem z_lt {x y : Int32} : x < y ↔ x.toInt < y.toInt := Int32.lt_iff_toInt_lt
theorem z_le {x y : Int32} : x ≤ y ↔ x.toInt ≤ y.toInt := Int32.le_iff_toInt_le
theorem z_n {n : Nat} (h : n < 2 ^ 31) : (nI n).toInt = n := nI_toInt h
theorem z_0 : (0 : Int32).toInt = 0 := by decide
theorem z_1 : (1 : Int32).toInt = 1 := by decide
theorem z_2 : (2 : Int32).toInt = 2 := by decide
theorem z_3 : (3 : Int32).toInt = 3 := by decide
theorem z_4 : (4 : Int32).toInt = 4 := by decide
theorem z_5 : (5 : Int32).toInt = 5 := by decide
theorem z_6 : (6 : Int32).toInt = 6 := by decide
theorem z_7 : (7 : Int32).toInt = 7 := by decide
theorem z_20 : (20 : Int32).toInt = 20 := by decide
theorem z_200 : (200 : Int32).toInt = 200 := by decide
theorem c_0 : Int32.toNatClampNeg (0 : Int32) = 0 := by decide
theorem c_2 : Int32.toNatClampNeg (2 : Int32) = 2 := by decide
theorem c_7 : Int32.toNatClampNeg (7 : Int32) = 7 := by decide
theorem c_8 : Int32.toNatClampNeg (8 : Int32) = 8 := by decide
theorem c_9 : Int32.toNatClampNeg (9 : Int32) = 9 := by decide
theorem c_10 : Int32.toNatClampNeg (10 : Int32) = 10 := by decide
theorem c_11 : Int32.toNatClampNeg (11 : Int32) = 11 := by decide
theorem c_16 : Int32.toNatClampNeg (16 : Int32) = 16 := by decide
theorem c_17 : Int32.toNatClampNeg (17 : Int32) = 17 := by decide
theorem c_18 : Int32.toNatClampNeg (18 : Int32) = 18 := by decide
theorem c_19 : Int32.toNatClampNeg (19 : Int32) = 19 := by decide
theorem c_20 : Int32.toNatClampNeg (20 : Int32) = 20 := by decide
theorem c_21 : Int32.toNatClampNeg (21 : Int32) = 21 := by decide
theorem zb_ok {α : Type} {v : Int32} {A : Option α} (h : v = 0 ∨ v = 1) : zb v A = A := if_pos h
theorem lp_mono {S O : Type} {body : (S → Option O) → S → Option O} (hb : ∀ (K K' : S → Option O), (∀ s o, K s = some o → K' s = some o) → ∀ s o, body K s = some o → body K' s = some o) :
    ∀ (n m : Nat), n ≤ m → ∀ s o, lp body n s = some o → lp body m s = some o := by
  intro n
  induction n with
  | zero => intro m _ s o h; cases h
  | succ n ih =>
    intro m hm s o h
    obtain ⟨m', rfl⟩ : ∃ k, m = k + 1 := ⟨m - 1, by omega⟩
    exact hb _ _ (ih m' (by omega)) s o h
theorem z_30 : (30 : Int32).toInt = 30 := by decide
theorem w_nat {x : Int32} (h1 : 1 ≤ x.toInt) (h2 : x.toInt ≤ 200) : ∃ y : Nat, y ≤ 200 ∧ x = nI y := by
  obtain ⟨j, hj, e⟩ := nI_of2 (x := x) (M := 200) (n := 200) z_200 (by rw [z_lt, z_0]; omega) (by rw [z_le, z_200]; exact h2)
  exact ⟨j, hj, e⟩
theorem c_1 : Int32.toNatClampNeg (1 : Int32) = 1 := by decide
theorem c_3 : Int32.toNatClampNeg (3 : Int32) = 3 := by decide
theorem c_4 : Int32.toNatClampNeg (4 : Int32) = 4 := by decide
theorem c_5 : Int32.toNatClampNeg (5 : Int32) = 5 := by decide
theorem c_6 : Int32.toNatClampNeg (6 : Int32) = 6 := by decide
theorem c_25 : Int32.toNatClampNeg (25 : Int32) = 25 := by decide
theorem lp_f {S O : Type} {body : (S → Option O) → S → Option O} (f : Nat → S) (n : Nat) (A : Option O)
    (step : ∀ k, k < n → ∀ K, body K (f k) = K (f (k + 1))) (fin : ∀ K, body K (f n) = A) {N : Nat} (hN : n < N) : lp body N (f 0) = A := by
  have key : ∀ j, j ≤ n → ∀ N, j < N → lp body N (f (n - j)) = A := by
    intro j
    induction j with
    | zero =>
      intro _ N hN
      obtain ⟨m, rfl⟩ : ∃ m, N = m + 1 := ⟨N - 1, by omega⟩
      exact fin _
    | succ j ih =>
      intro hj N hN
      obtain ⟨m, rfl⟩ : ∃ m, N = m + 1 := ⟨N - 1, by omega⟩
      show body (lp body m) (f (n - (j + 1))) = A
      rw [step _ (by omega), show n - (j + 1) + 1 = n - j from by omega]
      exact ih (by omega) m (by omega)
  have := key n (Nat.le_refl _) N hN
  rwa [Nat.sub_self] at this
def nv (s j : Nat) (x : Int32) : Int32 := if ((nI s >>> ((((2 : Int32) * nI j) + (0 : Int32)) &&& 31)) &&& (1 : Int32)) = ((nI s >>> ((((2 : Int32) * nI j) + (1 : Int32)) &&& 31)) &&& (1 : Int32)) then 0 else x + 1
def dcl (d : Fn) (s k : Nat) : Fn := fun j => if j < k then nv s j (d j) else d j
theorem dcl_0 (d : Fn) (s : Nat) : dcl d s 0 = d := by funext x; exact if_neg (by omega)
theorem dcl_s (d : Fn) (s k : Nat) : upd (dcl d s k) k (nv s k (d k)) = dcl d s (k + 1) := by
  funext x
  unfold dcl
  by_cases h : x = k
  · subst h; rw [upd_e rfl, if_pos (by omega)]
  · rw [upd_n h]
    by_cases h2 : x < k
    · rw [if_pos h2, if_pos (by omega)]
    · rw [if_neg h2, if_neg (by omega)]
theorem dcl_k (d : Fn) (s k : Nat) : dcl d s k k = d k := if_neg (by omega)
theorem q_dis {N s : Nat} (hN : 5000 ≤ N) (V : St) (hs : s < 256) (e1 : V.2.2.2.2.2.2.2.2.1 = nI s) : f_X4_countDisagreements N V = some (V.1, V.2.1, V.2.2.1, V.2.2.2.1, dcl V.2.2.2.2.1 s 4, V.2.2.2.2.2) := by
  have h1 := lp_f (body := b_X4_countDisagreements_2 N V) (fun k => ((V.1, V.2.1, V.2.2.1, V.2.2.2.1, dcl V.2.2.2.2.1 s k, V.2.2.2.2.2), nI k)) 4 (some (V.1, V.2.1, V.2.2.1, V.2.2.2.1, dcl V.2.2.2.2.1 s 4, V.2.2.2.2.2)) (by
    intro k hk K
    unfold b_X4_countDisagreements_2 f_X4_complains
    dsimp only
    rw [if_neg (show ¬ (4 : Int32) ≤ nI k from nI_ge hk (by decide)), e1, Option.bind_some, Option.bind_some]
    by_cases c : ((nI s >>> ((((2 : Int32) * nI k) + (0 : Int32)) &&& 31)) &&& (1 : Int32)) = ((nI s >>> ((((2 : Int32) * nI k) + (1 : Int32)) &&& 31)) &&& (1 : Int32))
    · rw [if_pos c]
      unfold b_X4_countDisagreements_27 b_X4_countDisagreements_49
      dsimp only
      rw [if_pos rfl, ix_nI hk (by decide), cl k (by omega), nI_1, ← dcl_s, show nv s k (V.2.2.2.2.1 k) = 0 from if_pos c]
    · rw [if_neg c]
      unfold b_X4_countDisagreements_27 b_X4_countDisagreements_49
      dsimp only
      rw [if_neg (show ¬ (1 : Int32) = 0 by decide), ix_nI hk (by decide), ix_nI hk (by decide), cl k (by omega), dcl_k, nI_1, ← dcl_s, show nv s k (V.2.2.2.2.1 k) = V.2.2.2.2.1 k + 1 from if_neg c]) (by
    intro K
    unfold b_X4_countDisagreements_2
    rw [if_pos (show (4 : Int32) ≤ nI 4 by decide)]) (N := N) (by omega)
  rw [dcl_0] at h1
  exact h1
theorem q_doubt {N : Nat} (hN : 5000 ≤ N) (V : St) : ∃ d : Int32, f_X4_isInDoubt N V = some d ∧ ((d = 1 ∧ ∃ j, j < 4 ∧ ¬ V.2.2.2.2.1 j ≤ V.1 4) ∨ (d = 0 ∧ ∀ j, j < 4 → V.2.2.2.2.1 j ≤ V.1 4)) :=
  lp_m (body := b_X4_isInDoubt_2 N V) (P := fun k s => k ≤ 4 ∧ s = nI (4 - k) ∧ ∀ j, j < 4 - k → V.2.2.2.2.1 j ≤ V.1 4) (Q := fun d => (d = 1 ∧ ∃ j, j < 4 ∧ ¬ V.2.2.2.2.1 j ≤ V.1 4) ∨ (d = 0 ∧ ∀ j, j < 4 → V.2.2.2.2.1 j ≤ V.1 4)) (by
    rintro k s ⟨hk, rfl, ha⟩
    by_cases k0 : k = 0
    · subst k0
      refine .inl ⟨0, fun K => ?_, .inr ⟨rfl, ha⟩⟩
      unfold b_X4_isInDoubt_2
      rw [if_pos (show (4 : Int32) ≤ nI (4 - 0) by decide)]
    · by_cases c : V.2.2.2.2.1 (4 - k) ≤ V.1 4
      · refine .inr ⟨k - 1, nI (4 - (k - 1)), by omega, ⟨by omega, rfl, fun j hj => ?_⟩, fun K => ?_⟩
        · by_cases hj2 : j = 4 - k
          · rw [hj2]; exact c
          · exact ha j (by omega)
        · unfold b_X4_isInDoubt_2
          rw [if_neg (show ¬ (4 : Int32) ≤ nI (4 - k) from nI_ge (show 4 - k < 4 by omega) (by decide)), ix_nI (show 4 - k < 4 by omega) (by decide), cl (4 - k) (by omega), c_4, if_pos c, nI_1, show 4 - k + 1 = 4 - (k - 1) from by omega]
      · refine .inl ⟨1, fun K => ?_, .inl ⟨rfl, 4 - k, by omega, c⟩⟩
        unfold b_X4_isInDoubt_2
        rw [if_neg (show ¬ (4 : Int32) ≤ nI (4 - k) from nI_ge (show 4 - k < 4 by omega) (by decide)), ix_nI (show 4 - k < 4 by omega) (by decide), cl (4 - k) (by omega), c_4, if_neg c]) N 4 (0 : Int32) (by omega) ⟨Nat.le_refl _, by rw [Nat.sub_self]; rfl, fun j hj => absurd hj (by omega)⟩
theorem z_90 : (90 : Int32).toInt = 90 := by decide
theorem z_999 : (999 : Int32).toInt = 999 := by decide
theorem neg_toInt {c : Nat} (hc : c < 2 ^ 30) : (-nI c).toInt = -(c : Int) := by
  rw [← Int32.zero_sub, show (0 : Int32) = nI 0 from rfl, pk_sub_toInt (by omega) hc]
  omega
theorem rr_cases {a b c : Nat} (ha : a ≤ 90) (hb : b ≤ 90) (hc : 1 ≤ c ∧ c ≤ 30) : ∃ (r : Int32) (n : Nat), (if (-nI c) < (if (nI a - nI b) < nI c then (nI a - nI b) else nI c) then (if (nI a - nI b) < nI c then (nI a - nI b) else nI c) else (-nI c)) = r ∧ nI b + r = nI n ∧ n ≤ 90 ∧ (a = 0 → b = 0 → n = 0) ∧ (a = 0 → 0 < b → n < b) ∧
    ∀ {α : Type} (f : Int32 → α), (if nI a - nI b ≤ nI c then (if -nI c ≤ nI a - nI b then f (nI a - nI b) else f (-nI c)) else f (nI c)) = f r := by
  have h1 : (nI a - nI b).toInt = (a : Int) - b := pk_sub_toInt (by omega) (by omega)
  have h2 : (-nI c).toInt = -(c : Int) := neg_toInt (by omega)
  have h3 : (nI c).toInt = (c : Int) := z_n (by omega)
  by_cases g1 : a > b + c
  · refine ⟨nI c, b + c, ?_, nI_add b c, by omega, by omega, by omega, fun f => ?_⟩
    · rw [if_neg (show ¬ nI a - nI b < nI c by rw [z_lt, h1, h3]; omega), if_pos (show -nI c < nI c by rw [z_lt, h2, h3]; omega)]
    · rw [if_neg (show ¬ nI a - nI b ≤ nI c by rw [z_le, h1, h3]; omega)]
  · by_cases g2 : b > a + c
    · refine ⟨-nI c, b - c, ?_, ?_, by omega, by omega, by omega, fun f => ?_⟩
      · rw [if_pos (show nI a - nI b < nI c by rw [z_lt, h1, h3]; omega), if_neg (show ¬ -nI c < nI a - nI b by rw [z_lt, h1, h2]; omega)]
      · rw [← Int32.sub_eq_add_neg]; exact pk_sub (by omega)
      · rw [if_pos (show nI a - nI b ≤ nI c by rw [z_le, h1, h3]; omega), if_neg (show ¬ -nI c ≤ nI a - nI b by rw [z_le, h1, h2]; omega)]
    · refine ⟨nI a - nI b, a, ?_, ?_, by omega, by omega, by omega, fun f => ?_⟩
      · by_cases g3 : a = b + c
        · have : nI a - nI b = nI c := by rw [pk_sub (by omega)]; congr 1; omega
          rw [this, if_neg (show ¬ nI c < nI c by rw [z_lt]; omega), if_pos (show -nI c < nI c by rw [z_lt, h2, h3]; omega)]
        · rw [if_pos (show nI a - nI b < nI c by rw [z_lt, h1, h3]; omega)]
          by_cases g4 : b = a + c
          · rw [if_neg (show ¬ -nI c < nI a - nI b by rw [z_lt, h1, h2]; omega)]
            exact Int32.toInt_inj.mp (by rw [h1, h2]; omega)
          · rw [if_pos (show -nI c < nI a - nI b by rw [z_lt, h1, h2]; omega)]
      · rw [Int32.add_comm, Int32.sub_add_cancel]
      · rw [if_pos (show nI a - nI b ≤ nI c by rw [z_le, h1, h3]; omega), if_pos (show -nI c ≤ nI a - nI b by rw [z_le, h1, h2]; omega)]
theorem cb4 {N : Nat} {V V1 : St} {K : (St × Int32 × Int32) → Option (St)} {kp i : Int32} : b_X4_carryPeople_4 N V K (V1, kp, i) = (if V1.2.2.2.2.2.2.2.1 ≤ i then b_X4_carryPeople_105 N V (V1, kp) else (if (20 : Int32) ≤ i then b_X4_carryPeople_105 N V (V1, kp) else (ix i 20 (if ((V1.2.1 (Int32.toNatClampNeg i)) + V1.2.2.2.2.2.2.2.2.2.2.2.1) < (1000 : Int32) then (ix kp 20 (ix i 20 (ix kp 20 (ix i 20 (ix kp 20 (b_X4_carryPeople_99 N V K ((V1.1, (upd V1.2.1 (Int32.toNatClampNeg kp) ((V1.2.1 (Int32.toNatClampNeg i)) + V1.2.2.2.2.2.2.2.2.2.2.2.1)), (upd V1.2.2.1 (Int32.toNatClampNeg kp) (V1.2.2.1 (Int32.toNatClampNeg i))), (upd V1.2.2.2.1 (Int32.toNatClampNeg kp) (V1.2.2.2.1 (Int32.toNatClampNeg i))), V1.2.2.2.2.1, V1.2.2.2.2.2.1, V1.2.2.2.2.2.2.1, V1.2.2.2.2.2.2.2.1, V1.2.2.2.2.2.2.2.2.1, V1.2.2.2.2.2.2.2.2.2.1, V1.2.2.2.2.2.2.2.2.2.2.1, V1.2.2.2.2.2.2.2.2.2.2.2.1, V1.2.2.2.2.2.2.2.2.2.2.2.2.1, V1.2.2.2.2.2.2.2.2.2.2.2.2.2.1, V1.2.2.2.2.2.2.2.2.2.2.2.2.2.2.1, V1.2.2.2.2.2.2.2.2.2.2.2.2.2.2.2.1, V1.2.2.2.2.2.2.2.2.2.2.2.2.2.2.2.2.1, V1.2.2.2.2.2.2.2.2.2.2.2.2.2.2.2.2.2), (kp + (1 : Int32)), i))))))) else (ix i 20 (b_X4_carryPeople_99 N V K ((V1.1, V1.2.1, V1.2.2.1, V1.2.2.2.1, V1.2.2.2.2.1, V1.2.2.2.2.2.1, V1.2.2.2.2.2.2.1, V1.2.2.2.2.2.2.2.1, V1.2.2.2.2.2.2.2.2.1, V1.2.2.2.2.2.2.2.2.2.1, V1.2.2.2.2.2.2.2.2.2.2.1, V1.2.2.2.2.2.2.2.2.2.2.2.1, (V1.2.2.2.2.2.2.2.2.2.2.2.2.1 + (1 : Int32)), (V1.2.2.2.2.2.2.2.2.2.2.2.2.2.1 + (V1.2.2.1 (Int32.toNatClampNeg i))), V1.2.2.2.2.2.2.2.2.2.2.2.2.2.2.1, V1.2.2.2.2.2.2.2.2.2.2.2.2.2.2.2.1, V1.2.2.2.2.2.2.2.2.2.2.2.2.2.2.2.2.1, V1.2.2.2.2.2.2.2.2.2.2.2.2.2.2.2.2.2), kp, i))))))) := rfl
def tail4 (N : Nat) (V : St) (p0 : Int32) (o10 : St) : Option St := (if o10.2.2.2.2.2.2.2.2.2.1 = (1 : Int32) then (if o10.2.2.2.2.2.2.2.2.2.2.2.1 = 0 then b_X4_passTick_59 N V p0 (o10.1, o10.2.1, o10.2.2.1, o10.2.2.2.1, o10.2.2.2.2.1, o10.2.2.2.2.2.1, o10.2.2.2.2.2.2.1, o10.2.2.2.2.2.2.2.1, o10.2.2.2.2.2.2.2.2.1, (2 : Int32), o10.2.2.2.2.2.2.2.2.2.2.1, o10.2.2.2.2.2.2.2.2.2.2.2.1, o10.2.2.2.2.2.2.2.2.2.2.2.2.1, o10.2.2.2.2.2.2.2.2.2.2.2.2.2.1, o10.2.2.2.2.2.2.2.2.2.2.2.2.2.2.1, o10.2.2.2.2.2.2.2.2.2.2.2.2.2.2.2.1, o10.2.2.2.2.2.2.2.2.2.2.2.2.2.2.2.2.1, o10.2.2.2.2.2.2.2.2.2.2.2.2.2.2.2.2.2) else b_X4_passTick_59 N V p0 o10) else b_X4_passTick_59 N V p0 o10)
theorem p16 {N : Nat} {V : St} {p0 : Int32} {s : St} : b_X4_passTick_16 N V p0 s = ((f_X4_countDisagreements N s).bind fun o2 => ((f_X4_totalWeight N o2).bind fun o4 => ((f_X4_wantedSpeed N o2 o4).bind fun o6 => ((f_X4_changeSpeed o2 o6 o4).bind fun o8 => ((f_X4_carryPeople N o8).bind fun o10 => tail4 N V p0 o10))))) := rfl
