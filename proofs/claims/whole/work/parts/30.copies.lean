/-! PURE PART: loops with a bound, copies -/
theorem lp_m {S O : Type} {body : (S → Option O) → S → Option O} {P : Nat → S → Prop} {Q : O → Prop}
    (step : ∀ k s, P k s → (∃ o, (∀ K, body K s = some o) ∧ Q o) ∨ (∃ j s', j < k ∧ P j s' ∧ ∀ K, body K s = K s')) :
    ∀ (N k : Nat) (s : S), k < N → P k s → ∃ o, lp body N s = some o ∧ Q o := by
  intro N
  induction N with
  | zero => intro k s h; exact absurd h (Nat.not_lt_zero _)
  | succ N ih =>
    intro k s h hP
    rcases step k s hP with ⟨o, ho, hQ⟩ | ⟨j, s', hj, hP', e⟩
    · exact ⟨o, ho _, hQ⟩
    · obtain ⟨o, ho, hQ⟩ := ih j s' (by omega) hP'
      exact ⟨o, (e (lp body N)).trans ho, hQ⟩
theorem lp_c {S O : Type} {body : (S → Option O) → S → Option O} (f : Nat → S) (n : Nat) (o : O)
    (step : ∀ k, k < n → ∀ K, body K (f k) = K (f (k + 1))) (fin : ∀ K, body K (f n) = some o) {N : Nat} (hN : n < N) : lp body N (f 0) = some o := by
  obtain ⟨o', h1, h2⟩ := lp_m (body := body) (P := fun k s => k ≤ n ∧ s = f (n - k)) (Q := fun x => x = o) (by
    rintro k s ⟨hk, rfl⟩
    by_cases h0 : k = 0
    · subst h0
      exact .inl ⟨o, fin, rfl⟩
    · refine .inr ⟨k - 1, f (n - (k - 1)), by omega, ⟨by omega, rfl⟩, fun K => ?_⟩
      have := step (n - k) (by omega) K
      rw [this, show n - k + 1 = n - (k - 1) from by omega]) N n (f 0) hN ⟨Nat.le_refl _, by rw [Nat.sub_self]⟩
  rw [h1, h2]
theorem ix_nI {α : Type} {a n : Nat} {A : Option α} (h : a < n) (hn : n < 2 ^ 31) : ix (nI a) n A = A := by
  unfold ix
  rw [if_neg (nI_in h hn)]
theorem ix_of {α : Type} {z : Int32} {a n : Nat} {A : Option α} (e : z = nI a) (h : a < n) (hn : n < 2 ^ 31) : ix z n A = A := by
  rw [e, ix_nI h hn]
def cpf (d s : Fn) (a b n : Nat) : Fn := fun x => if a ≤ x ∧ x < a + n then s (b + (x - a)) else d x
theorem cpf_0 (d s : Fn) (a b : Nat) : cpf d s a b 0 = d := by
  funext x
  unfold cpf
  rw [if_neg (by omega)]
theorem cpf_s (d s : Fn) (a b k : Nat) : upd (cpf d s a b k) (a + k) (s (b + k)) = cpf d s a b (k + 1) := by
  funext x
  unfold upd cpf
  by_cases h : x = a + k
  · subst h
    simp
  · by_cases h2 : a ≤ x ∧ x < a + k
    · rw [if_pos (show a ≤ x ∧ x < a + (k + 1) from by omega)]
      simp [h, h2]
    · rw [if_neg (show ¬ (a ≤ x ∧ x < a + (k + 1)) from by omega)]
      simp [h, h2]
theorem cpf_in {d s : Fn} {a b n x : Nat} (h1 : a ≤ x) (h2 : x < a + n) : cpf d s a b n x = s (b + (x - a)) := by
  unfold cpf; rw [if_pos ⟨h1, h2⟩]
theorem cpf_out {d s : Fn} {a b n x : Nat} (h : ¬ (a ≤ x ∧ x < a + n)) : cpf d s a b n x = d x := by
  unfold cpf; rw [if_neg h]
theorem cl (k : Nat) (h : k < 2 ^ 31) : Int32.toNatClampNeg (nI k) = k := nI_clamp h
theorem q_putAside {N : Nat} (hN : 5000 ≤ N) (V : Md) : f_X6_putAside N V = some (V.1, V.2.1, V.2.2.1, V.2.2.2.1, V.2.2.2.2.1, cpf V.2.2.2.2.2.1 V.1 0 0 173, V.2.2.2.2.2.2.1, V.2.2.2.2.2.2.2.1, V.2.2.2.2.2.2.2.2.1, V.2.2.2.2.2.2.2.2.2.1, V.2.2.2.2.2.2.2.2.2.2.1, V.2.2.2.2.2.2.2.2.2.2.2.1, V.2.2.2.2.2.2.2.2.2.2.2.2.1, V.2.2.2.2.2.2.2.2.2.2.2.2.2) := by
  have h1 := lp_c (body := b_X6_putAside_2 N V) (fun k => ((V.1, V.2.1, V.2.2.1, V.2.2.2.1, V.2.2.2.2.1, cpf V.2.2.2.2.2.1 V.1 0 0 k, V.2.2.2.2.2.2.1, V.2.2.2.2.2.2.2.1, V.2.2.2.2.2.2.2.2.1, V.2.2.2.2.2.2.2.2.2.1, V.2.2.2.2.2.2.2.2.2.2.1, V.2.2.2.2.2.2.2.2.2.2.2.1, V.2.2.2.2.2.2.2.2.2.2.2.2.1, V.2.2.2.2.2.2.2.2.2.2.2.2.2), nI k)) 173 (V.1, V.2.1, V.2.2.1, V.2.2.2.1, V.2.2.2.2.1, cpf V.2.2.2.2.2.1 V.1 0 0 173, V.2.2.2.2.2.2.1, V.2.2.2.2.2.2.2.1, V.2.2.2.2.2.2.2.2.1, V.2.2.2.2.2.2.2.2.2.1, V.2.2.2.2.2.2.2.2.2.2.1, V.2.2.2.2.2.2.2.2.2.2.2.1, V.2.2.2.2.2.2.2.2.2.2.2.2.1, V.2.2.2.2.2.2.2.2.2.2.2.2.2) (by
    intro k hk K
    unfold b_X6_putAside_2
    rw [if_neg (show ¬ (173 : Int32) ≤ nI k from nI_ge hk (by decide))]
    try dsimp only
    rw [ix_nI hk (by decide), ix_nI hk (by decide)]
    try dsimp only
    rw [cl k (by omega), ← nI_succ, ← cpf_s, Nat.zero_add]) (by
    intro K
    unfold b_X6_putAside_2
    rw [if_pos (show (173 : Int32) ≤ nI 173 by decide)]) (N := N) (by omega)
  try dsimp only at h1
  rw [cpf_0] at h1
  exact h1
theorem q_bringBack {N : Nat} (hN : 5000 ≤ N) (V : Md) : f_X6_bringBack N V = some (cpf V.1 V.2.2.2.2.2.1 0 0 173, V.2.1, V.2.2.1, V.2.2.2.1, V.2.2.2.2.1, V.2.2.2.2.2.1, V.2.2.2.2.2.2.1, V.2.2.2.2.2.2.2.1, V.2.2.2.2.2.2.2.2.1, V.2.2.2.2.2.2.2.2.2.1, V.2.2.2.2.2.2.2.2.2.2.1, V.2.2.2.2.2.2.2.2.2.2.2.1, V.2.2.2.2.2.2.2.2.2.2.2.2.1, V.2.2.2.2.2.2.2.2.2.2.2.2.2) := by
  have h1 := lp_c (body := b_X6_bringBack_2 N V) (fun k => ((cpf V.1 V.2.2.2.2.2.1 0 0 k, V.2.1, V.2.2.1, V.2.2.2.1, V.2.2.2.2.1, V.2.2.2.2.2.1, V.2.2.2.2.2.2.1, V.2.2.2.2.2.2.2.1, V.2.2.2.2.2.2.2.2.1, V.2.2.2.2.2.2.2.2.2.1, V.2.2.2.2.2.2.2.2.2.2.1, V.2.2.2.2.2.2.2.2.2.2.2.1, V.2.2.2.2.2.2.2.2.2.2.2.2.1, V.2.2.2.2.2.2.2.2.2.2.2.2.2), nI k)) 173 (cpf V.1 V.2.2.2.2.2.1 0 0 173, V.2.1, V.2.2.1, V.2.2.2.1, V.2.2.2.2.1, V.2.2.2.2.2.1, V.2.2.2.2.2.2.1, V.2.2.2.2.2.2.2.1, V.2.2.2.2.2.2.2.2.1, V.2.2.2.2.2.2.2.2.2.1, V.2.2.2.2.2.2.2.2.2.2.1, V.2.2.2.2.2.2.2.2.2.2.2.1, V.2.2.2.2.2.2.2.2.2.2.2.2.1, V.2.2.2.2.2.2.2.2.2.2.2.2.2) (by
    intro k hk K
    unfold b_X6_bringBack_2
    rw [if_neg (show ¬ (173 : Int32) ≤ nI k from nI_ge hk (by decide))]
    try dsimp only
    rw [ix_nI hk (by decide), ix_nI hk (by decide)]
    try dsimp only
    rw [cl k (by omega), ← nI_succ, ← cpf_s, Nat.zero_add]) (by
    intro K
    unfold b_X6_bringBack_2
    rw [if_pos (show (173 : Int32) ≤ nI 173 by decide)]) (N := N) (by omega)
  try dsimp only at h1
  rw [cpf_0] at h1
  exact h1
theorem q_record52 {N : Nat} (hN : 5000 ≤ N) (V0 V : Md) {h : Nat} (hh : h < 6) (eh : V.2.2.2.2.1 = nI h) : b_X6_record_50 N V0 V = some (V.1, cpf V.2.1 V.1 (h * 173) 0 173, V.2.2.1, V.2.2.2.1, nI (h + 1), V.2.2.2.2.2.1, V.2.2.2.2.2.2.1, V.2.2.2.2.2.2.2.1, V.2.2.2.2.2.2.2.2.1, V.2.2.2.2.2.2.2.2.2.1, V.2.2.2.2.2.2.2.2.2.2.1, V.2.2.2.2.2.2.2.2.2.2.2.1, V.2.2.2.2.2.2.2.2.2.2.2.2.1, V.2.2.2.2.2.2.2.2.2.2.2.2.2) := by
  have h1 := lp_c (body := b_X6_record_52 N V0) (fun k => ((V.1, cpf V.2.1 V.1 (h * 173) 0 k, V.2.2.1, V.2.2.2.1, V.2.2.2.2.1, V.2.2.2.2.2.1, V.2.2.2.2.2.2.1, V.2.2.2.2.2.2.2.1, V.2.2.2.2.2.2.2.2.1, V.2.2.2.2.2.2.2.2.2.1, V.2.2.2.2.2.2.2.2.2.2.1, V.2.2.2.2.2.2.2.2.2.2.2.1, V.2.2.2.2.2.2.2.2.2.2.2.2.1, V.2.2.2.2.2.2.2.2.2.2.2.2.2), nI k)) 173 (V.1, cpf V.2.1 V.1 (h * 173) 0 173, V.2.2.1, V.2.2.2.1, nI (h + 1), V.2.2.2.2.2.1, V.2.2.2.2.2.2.1, V.2.2.2.2.2.2.2.1, V.2.2.2.2.2.2.2.2.1, V.2.2.2.2.2.2.2.2.2.1, V.2.2.2.2.2.2.2.2.2.2.1, V.2.2.2.2.2.2.2.2.2.2.2.1, V.2.2.2.2.2.2.2.2.2.2.2.2.1, V.2.2.2.2.2.2.2.2.2.2.2.2.2) (by
    intro k hk K
    unfold b_X6_record_52
    rw [if_neg (show ¬ (173 : Int32) ≤ nI k from nI_ge hk (by decide))]
    try dsimp only
    rw [eh, show nI h * (173 : Int32) + nI k = nI (h * 173 + k) from by rw [show (173 : Int32) = nI 173 from rfl, pk_mul, nI_add], ix_nI hk (by decide), ix_nI (show h * 173 + k < 1038 by omega) (by decide)]
    try dsimp only
    rw [cl k (by omega), cl (h * 173 + k) (by omega), ← nI_succ, ← cpf_s, Nat.zero_add]) (by
    intro K
    unfold b_X6_record_52
    rw [if_pos (show (173 : Int32) ≤ nI 173 by decide)]
    try dsimp only
    rw [eh, ← nI_succ]) (N := N) (by omega)
  try dsimp only at h1
  rw [cpf_0] at h1
  exact h1
theorem q_record11 {N : Nat} (hN : 5000 ≤ N) (V0 V : Md) (eh : V.2.2.2.2.1 = nI 6) : lp (b_X6_record_11 N V0) N (V, (0 : Int32)) = some (V.1, cpf (cpf V.2.1 V.2.1 0 173 865) V.1 (5 * 173) 0 173, V.2.2.1, V.2.2.2.1, nI 6, V.2.2.2.2.2.1, V.2.2.2.2.2.2.1, V.2.2.2.2.2.2.2.1, V.2.2.2.2.2.2.2.2.1, V.2.2.2.2.2.2.2.2.2.1, V.2.2.2.2.2.2.2.2.2.2.1, V.2.2.2.2.2.2.2.2.2.2.2.1, V.2.2.2.2.2.2.2.2.2.2.2.2.1, V.2.2.2.2.2.2.2.2.2.2.2.2.2) := by
  have h1 := lp_c (body := b_X6_record_11 N V0) (fun k => ((V.1, cpf V.2.1 V.2.1 0 173 k, V.2.2.1, V.2.2.2.1, V.2.2.2.2.1, V.2.2.2.2.2.1, V.2.2.2.2.2.2.1, V.2.2.2.2.2.2.2.1, V.2.2.2.2.2.2.2.2.1, V.2.2.2.2.2.2.2.2.2.1, V.2.2.2.2.2.2.2.2.2.2.1, V.2.2.2.2.2.2.2.2.2.2.2.1, V.2.2.2.2.2.2.2.2.2.2.2.2.1, V.2.2.2.2.2.2.2.2.2.2.2.2.2), nI k)) 865 (V.1, cpf (cpf V.2.1 V.2.1 0 173 865) V.1 (5 * 173) 0 173, V.2.2.1, V.2.2.2.1, nI 6, V.2.2.2.2.2.1, V.2.2.2.2.2.2.1, V.2.2.2.2.2.2.2.1, V.2.2.2.2.2.2.2.2.1, V.2.2.2.2.2.2.2.2.2.1, V.2.2.2.2.2.2.2.2.2.2.1, V.2.2.2.2.2.2.2.2.2.2.2.1, V.2.2.2.2.2.2.2.2.2.2.2.2.1, V.2.2.2.2.2.2.2.2.2.2.2.2.2) (by
    intro k hk K
    unfold b_X6_record_11
    rw [if_neg (show ¬ (865 : Int32) ≤ nI k from nI_ge hk (by decide))]
    try dsimp only
    rw [show nI k + (173 : Int32) = nI (k + 173) from nI_add k 173, ix_nI (show k + 173 < 1038 by omega) (by decide), ix_nI (show k < 1038 by omega) (by decide)]
    try dsimp only
    rw [cl k (by omega), cl (k + 173) (by omega), ← nI_succ, cpf_out (show ¬ (0 ≤ k + 173 ∧ k + 173 < 0 + k) by omega), ← cpf_s, Nat.zero_add, Nat.add_comm 173 k]) (by
    intro K
    unfold b_X6_record_11
    rw [if_pos (show (865 : Int32) ≤ nI 865 by decide)]
    try dsimp only
    rw [eh, show nI 6 - (1 : Int32) = nI 5 from by decide]
    exact q_record52 hN V0 (V.1, cpf V.2.1 V.2.1 0 173 865, V.2.2.1, V.2.2.2.1, nI 5, V.2.2.2.2.2.1, V.2.2.2.2.2.2.1, V.2.2.2.2.2.2.2.1, V.2.2.2.2.2.2.2.2.1, V.2.2.2.2.2.2.2.2.2.1, V.2.2.2.2.2.2.2.2.2.2.1, V.2.2.2.2.2.2.2.2.2.2.2.1, V.2.2.2.2.2.2.2.2.2.2.2.2.1, V.2.2.2.2.2.2.2.2.2.2.2.2.2) (h := 5) (by decide) rfl) (N := N) (by omega)
  try dsimp only at h1
  rw [cpf_0] at h1
  exact h1
theorem q_record {N : Nat} (hN : 5000 ≤ N) (V : Md) {h : Nat} (hh : h ≤ 6) (eh : V.2.2.2.2.1 = nI h) : f_X6_record N V = some (if h = 6 then (V.1, cpf (cpf V.2.1 V.2.1 0 173 865) V.1 (5 * 173) 0 173, V.2.2.1, V.2.2.2.1, nI 6, V.2.2.2.2.2.1, V.2.2.2.2.2.2.1, V.2.2.2.2.2.2.2.1, V.2.2.2.2.2.2.2.2.1, V.2.2.2.2.2.2.2.2.2.1, V.2.2.2.2.2.2.2.2.2.2.1, V.2.2.2.2.2.2.2.2.2.2.2.1, V.2.2.2.2.2.2.2.2.2.2.2.2.1, V.2.2.2.2.2.2.2.2.2.2.2.2.2) else (V.1, cpf V.2.1 V.1 (h * 173) 0 173, V.2.2.1, V.2.2.2.1, nI (h + 1), V.2.2.2.2.2.1, V.2.2.2.2.2.2.1, V.2.2.2.2.2.2.2.1, V.2.2.2.2.2.2.2.2.1, V.2.2.2.2.2.2.2.2.2.1, V.2.2.2.2.2.2.2.2.2.2.1, V.2.2.2.2.2.2.2.2.2.2.2.1, V.2.2.2.2.2.2.2.2.2.2.2.2.1, V.2.2.2.2.2.2.2.2.2.2.2.2.2)) := by
  unfold f_X6_record
  by_cases h6 : h = 6
  · subst h6
    rw [if_pos (show V.2.2.2.2.1 = (6 : Int32) from eh), if_pos rfl]
    exact q_record11 hN V V eh
  · rw [if_neg (show ¬ V.2.2.2.2.1 = (6 : Int32) from fun e => h6 ((nI_eq (by omega) (by decide)).mp (eh.symm.trans e))), if_neg h6]
    exact q_record52 hN V V (by omega) eh
theorem q_undo22 {N : Nat} (hN : 5000 ≤ N) (V0 V : Md) {h : Nat} (hh : h < 6) (eh : V.2.2.2.2.1 = nI h) : lp (b_X6_undo_22 N V0) N (V, (0 : Int32)) = some (nI h, (cpf V.1 V.2.1 0 (h * 173) 173, V.2.1, V.2.2.1, V.2.2.2.1, V.2.2.2.2.1, V.2.2.2.2.2.1, V.2.2.2.2.2.2.1, V.2.2.2.2.2.2.2.1, V.2.2.2.2.2.2.2.2.1, V.2.2.2.2.2.2.2.2.2.1, V.2.2.2.2.2.2.2.2.2.2.1, V.2.2.2.2.2.2.2.2.2.2.2.1, V.2.2.2.2.2.2.2.2.2.2.2.2.1, V.2.2.2.2.2.2.2.2.2.2.2.2.2)) := by
  have h1 := lp_c (body := b_X6_undo_22 N V0) (fun k => ((cpf V.1 V.2.1 0 (h * 173) k, V.2.1, V.2.2.1, V.2.2.2.1, V.2.2.2.2.1, V.2.2.2.2.2.1, V.2.2.2.2.2.2.1, V.2.2.2.2.2.2.2.1, V.2.2.2.2.2.2.2.2.1, V.2.2.2.2.2.2.2.2.2.1, V.2.2.2.2.2.2.2.2.2.2.1, V.2.2.2.2.2.2.2.2.2.2.2.1, V.2.2.2.2.2.2.2.2.2.2.2.2.1, V.2.2.2.2.2.2.2.2.2.2.2.2.2), nI k)) 173 (nI h, (cpf V.1 V.2.1 0 (h * 173) 173, V.2.1, V.2.2.1, V.2.2.2.1, V.2.2.2.2.1, V.2.2.2.2.2.1, V.2.2.2.2.2.2.1, V.2.2.2.2.2.2.2.1, V.2.2.2.2.2.2.2.2.1, V.2.2.2.2.2.2.2.2.2.1, V.2.2.2.2.2.2.2.2.2.2.1, V.2.2.2.2.2.2.2.2.2.2.2.1, V.2.2.2.2.2.2.2.2.2.2.2.2.1, V.2.2.2.2.2.2.2.2.2.2.2.2.2)) (by
    intro k hk K
    unfold b_X6_undo_22
    rw [if_neg (show ¬ (173 : Int32) ≤ nI k from nI_ge hk (by decide))]
    try dsimp only
    rw [eh, show nI h * (173 : Int32) + nI k = nI (h * 173 + k) from by rw [show (173 : Int32) = nI 173 from rfl, pk_mul, nI_add], ix_nI (show h * 173 + k < 1038 by omega) (by decide), ix_nI hk (by decide)]
    try dsimp only
    rw [cl k (by omega), cl (h * 173 + k) (by omega), ← nI_succ, ← cpf_s, Nat.zero_add]) (by
    intro K
    unfold b_X6_undo_22
    rw [if_pos (show (173 : Int32) ≤ nI 173 by decide)]
    try dsimp only
    rw [eh]) (N := N) (by omega)
  try dsimp only at h1
  rw [cpf_0] at h1
  exact h1
theorem q_save21 {N : Nat} (hN : 5000 ≤ N) (V0 V : Md) {b : Nat} (hh : b < 2) : lp (b_X6_save_21 N V0 (nI b)) N (V, (0 : Int32)) = some (V.1 10, (V.1, V.2.1, cpf V.2.2.1 V.1 (b * 173) 0 173, V.2.2.2.1, V.2.2.2.2.1, V.2.2.2.2.2.1, V.2.2.2.2.2.2.1, V.2.2.2.2.2.2.2.1, V.2.2.2.2.2.2.2.2.1, V.2.2.2.2.2.2.2.2.2.1, V.2.2.2.2.2.2.2.2.2.2.1, V.2.2.2.2.2.2.2.2.2.2.2.1, V.2.2.2.2.2.2.2.2.2.2.2.2.1, V.2.2.2.2.2.2.2.2.2.2.2.2.2)) := by
  have h1 := lp_c (body := b_X6_save_21 N V0 (nI b)) (fun k => ((V.1, V.2.1, cpf V.2.2.1 V.1 (b * 173) 0 k, V.2.2.2.1, V.2.2.2.2.1, V.2.2.2.2.2.1, V.2.2.2.2.2.2.1, V.2.2.2.2.2.2.2.1, V.2.2.2.2.2.2.2.2.1, V.2.2.2.2.2.2.2.2.2.1, V.2.2.2.2.2.2.2.2.2.2.1, V.2.2.2.2.2.2.2.2.2.2.2.1, V.2.2.2.2.2.2.2.2.2.2.2.2.1, V.2.2.2.2.2.2.2.2.2.2.2.2.2), nI k)) 173 (V.1 10, (V.1, V.2.1, cpf V.2.2.1 V.1 (b * 173) 0 173, V.2.2.2.1, V.2.2.2.2.1, V.2.2.2.2.2.1, V.2.2.2.2.2.2.1, V.2.2.2.2.2.2.2.1, V.2.2.2.2.2.2.2.2.1, V.2.2.2.2.2.2.2.2.2.1, V.2.2.2.2.2.2.2.2.2.2.1, V.2.2.2.2.2.2.2.2.2.2.2.1, V.2.2.2.2.2.2.2.2.2.2.2.2.1, V.2.2.2.2.2.2.2.2.2.2.2.2.2)) (by
    intro k hk K
    unfold b_X6_save_21
    rw [if_neg (show ¬ (173 : Int32) ≤ nI k from nI_ge hk (by decide))]
    try dsimp only
    rw [show nI b * (173 : Int32) + nI k = nI (b * 173 + k) from by rw [show (173 : Int32) = nI 173 from rfl, pk_mul, nI_add], ix_nI hk (by decide), ix_nI (show b * 173 + k < 346 by omega) (by decide)]
    try dsimp only
    rw [cl k (by omega), cl (b * 173 + k) (by omega), ← nI_succ, ← cpf_s, Nat.zero_add]) (by
    intro K
    unfold b_X6_save_21
    rw [if_pos (show (173 : Int32) ≤ nI 173 by decide)]
    rfl) (N := N) (by omega)
  try dsimp only at h1
  rw [cpf_0] at h1
  exact h1
theorem q_restore30 {N : Nat} (hN : 5000 ≤ N) (V0 V : Md) {b : Nat} (hh : b < 2) : lp (b_X6_restore_30 N V0 (nI b)) N (V, (0 : Int32)) = some (V.2.2.1 (b * 173 + 10), (cpf V.1 V.2.2.1 0 (b * 173) 173, V.2.1, V.2.2.1, V.2.2.2.1, V.2.2.2.2.1, V.2.2.2.2.2.1, V.2.2.2.2.2.2.1, V.2.2.2.2.2.2.2.1, V.2.2.2.2.2.2.2.2.1, V.2.2.2.2.2.2.2.2.2.1, V.2.2.2.2.2.2.2.2.2.2.1, V.2.2.2.2.2.2.2.2.2.2.2.1, V.2.2.2.2.2.2.2.2.2.2.2.2.1, V.2.2.2.2.2.2.2.2.2.2.2.2.2)) := by
  have h1 := lp_c (body := b_X6_restore_30 N V0 (nI b)) (fun k => ((cpf V.1 V.2.2.1 0 (b * 173) k, V.2.1, V.2.2.1, V.2.2.2.1, V.2.2.2.2.1, V.2.2.2.2.2.1, V.2.2.2.2.2.2.1, V.2.2.2.2.2.2.2.1, V.2.2.2.2.2.2.2.2.1, V.2.2.2.2.2.2.2.2.2.1, V.2.2.2.2.2.2.2.2.2.2.1, V.2.2.2.2.2.2.2.2.2.2.2.1, V.2.2.2.2.2.2.2.2.2.2.2.2.1, V.2.2.2.2.2.2.2.2.2.2.2.2.2), nI k)) 173 (V.2.2.1 (b * 173 + 10), (cpf V.1 V.2.2.1 0 (b * 173) 173, V.2.1, V.2.2.1, V.2.2.2.1, V.2.2.2.2.1, V.2.2.2.2.2.1, V.2.2.2.2.2.2.1, V.2.2.2.2.2.2.2.1, V.2.2.2.2.2.2.2.2.1, V.2.2.2.2.2.2.2.2.2.1, V.2.2.2.2.2.2.2.2.2.2.1, V.2.2.2.2.2.2.2.2.2.2.2.1, V.2.2.2.2.2.2.2.2.2.2.2.2.1, V.2.2.2.2.2.2.2.2.2.2.2.2.2)) (by
    intro k hk K
    unfold b_X6_restore_30
    rw [if_neg (show ¬ (173 : Int32) ≤ nI k from nI_ge hk (by decide))]
    try dsimp only
    rw [show nI b * (173 : Int32) + nI k = nI (b * 173 + k) from by rw [show (173 : Int32) = nI 173 from rfl, pk_mul, nI_add], ix_nI (show b * 173 + k < 346 by omega) (by decide), ix_nI hk (by decide)]
    try dsimp only
    rw [cl k (by omega), cl (b * 173 + k) (by omega), ← nI_succ, ← cpf_s, Nat.zero_add]) (by
    intro K
    unfold b_X6_restore_30
    rw [if_pos (show (173 : Int32) ≤ nI 173 by decide)]
    rfl) (N := N) (by omega)
  try dsimp only at h1
  rw [cpf_0] at h1
  exact h1
/-! the relation is of the cells alone; record and undo -/
theorem cpy_in {f g : Fn} {n k : Nat} (h : k < n) : va_cpy f g (Int32.toNatClampNeg (0 : Int32)) (Int32.toNatClampNeg (0 : Int32)) n k = f k := by
  unfold va_cpy
  rw [show Int32.toNatClampNeg (0 : Int32) = 0 from by decide, if_pos ⟨Nat.zero_le _, by omega⟩, Nat.zero_add, Nat.sub_zero]
theorem copy_ok (D S : St) : ∃ C, f_X4_copy D S = some C ∧ C.2.2.2.2.2.2 = S.2.2.2.2.2.2 ∧ (∀ j, j < 7 → C.1 j = S.1 j) ∧ (∀ j, j < 20 → C.2.1 j = S.2.1 j) ∧ (∀ j, j < 20 → C.2.2.1 j = S.2.2.1 j) ∧ (∀ j, j < 20 → C.2.2.2.1 j = S.2.2.2.1 j) ∧ (∀ j, j < 4 → C.2.2.2.2.1 j = S.2.2.2.2.1 j) ∧ (∀ j, j < 30 → C.2.2.2.2.2.1 j = S.2.2.2.2.2.1 j) :=
  ⟨_, rfl, rfl, fun _ h => cpy_in h, fun _ h => cpy_in h, fun _ h => cpy_in h, fun _ h => cpy_in h, fun _ h => cpy_in h, fun _ h => cpy_in h⟩
theorem RelSt.mono {T T' : Nat} (hT : T ≤ T') {R : Ru} {V : St} {z : Fn} (h : RelSt T R V z) : RelSt T' R V z := by
  obtain ⟨p, t, s, a1, a2, a3⟩ := h
  exact ⟨p, t, s, a1, Nat.le_trans a2 hT, a3⟩
theorem RelSt.cells {T : Nat} {R : Ru} {V : St} {z y : Fn} (e : ∀ x, x < 173 → y x = z x) (h : RelSt T R V z) : RelSt T R V y := by
  obtain ⟨p, t, s, a1, a2, a3, b1, b2, b3, b4, b5, b6, c1, c2, c3, c4, c5, c6, c7, c8, n, hn, hs⟩ := h
  have e0 := e 0 (by omega); have e1 := e 1 (by omega); have e2 := e 2 (by omega); have e3 := e 3 (by omega); have e4 := e 4 (by omega); have e5 := e 5 (by omega); have e6 := e 6 (by omega)
  refine ⟨p, t, s, a1, a2, a3, b1, (e 10 (by omega)).trans b2, b3, (e 7 (by omega)).trans b4, b5, (e 11 (by omega)).trans b6, fun j hj => (c1 j hj).trans (e j (by omega)).symm, ?_, ?_, ?_, fun j hj => (c5 j hj).trans (e _ (by omega)).symm, ?_, ?_, fun j hj => (c8 j hj).trans (e _ (by omega)).symm, n, (e 22 (by omega)).trans hn, ?_⟩
  · rw [e0, e1, e2, e3, e4, e5, e6]; exact c2
  · rw [e 8 (by omega)]; exact c3
  · rw [e 9 (by omega), e 8 (by omega)]; exact c4
  · rw [e 16 (by omega), e 17 (by omega), e 18 (by omega), e 19 (by omega), e 20 (by omega), e 21 (by omega)]; exact c6
  · intro i hi
    have := c7 i hi
    rw [e (83 + 3 * i) (by omega), e (84 + 3 * i) (by omega), e (85 + 3 * i) (by omega)]
    exact this
  · obtain ⟨h1, h2, h3⟩ := hs
    refine ⟨h1, h2, fun N hN M hM hT => h3 N hN M hM (fun k hk => (hT k hk).trans (e _ (by omega)))⟩
theorem RelSt.copy {T : Nat} {R : Ru} {D S C : St} {z : Fn} (h : RelSt T R S z) (e : f_X4_copy D S = some C) : RelSt T R C z ∧ C.2.2.2.2.2.2 = S.2.2.2.2.2.2 := by
  obtain ⟨C', e1, d0, d1, d2, d3, d4, d5, d6⟩ := copy_ok D S
  obtain rfl : C' = C := Option.some.inj (e1.symm.trans e)
  refine ⟨?_, d0⟩
  obtain ⟨p, t, s, a1, a2, a3, b1, b2, b3, b4, b5, b6, c1, c2, c3, c4, c5, c6, c7, c8, hR⟩ := h
  exact ⟨p, t, s, a1, a2, a3, by rw [d0]; exact b1, b2, by rw [d0]; exact b3, b4, by rw [d0]; exact b5, b6, fun j hj => (d1 j hj).trans (c1 j hj), c2, by rw [d0]; exact c3, by rw [d0]; exact c4,
    fun j hj => (d5 j hj).trans (c5 j hj), by rw [d0]; exact c6, fun i hi => by rw [d2 i (by omega), d3 i (by omega), d4 i (by omega)]; exact c7 i hi, fun j hj => (d6 j hj).trans (c8 j hj), hR⟩
theorem RelS.scr {ρ : Nat → Ru} {RS : Nat → Prop} {S : CS} {M M2 : Md} (h : RelS ρ RS S M) (e : Scr M M2) : RelS ρ RS S M2 := by
  obtain ⟨e1, e2, e3, e4, e5, e6, e7, e8⟩ := e
  unfold RelS at h ⊢
  rw [e1, e2, e3, e4, e5, e7, e8]
  exact h
theorem Scr.refl (M : Md) : Scr M M := ⟨rfl, rfl, rfl, rfl, rfl, rfl, rfl, rfl⟩
theorem Scr.trans {A B C : Md} (h : Scr A B) (g : Scr B C) : Scr A C :=
  ⟨g.1.trans h.1, g.2.1.trans h.2.1, g.2.2.1.trans h.2.2.1, g.2.2.2.1.trans h.2.2.2.1, g.2.2.2.2.1.trans h.2.2.2.2.1, g.2.2.2.2.2.1.trans h.2.2.2.2.2.1, g.2.2.2.2.2.2.1.trans h.2.2.2.2.2.2.1, g.2.2.2.2.2.2.2.trans h.2.2.2.2.2.2.2⟩
def KK (k0 k1 k2 k3 k4 k5 : St) (k : Nat) : St := if k = 0 then k0 else if k = 1 then k1 else if k = 2 then k2 else if k = 3 then k3 else if k = 4 then k4 else k5
theorem record_c (Vh : Hb) (k0 k1 k2 k3 k4 k5 Vn : St) {l h : Nat} (hl : l < 6) (hh : h ≤ 6) (e1 : Vh.1 = nI l) (e2 : Vh.2 = nI h) :
    ∃ o C, f_X0_record Vh k0 k1 k2 k3 k4 k5 Vn = some o ∧ f_X4_copy (KK k0 k1 k2 k3 k4 k5 ((l + 1) % 6)) Vn = some C ∧ o.1.1 = nI ((l + 1) % 6) ∧ o.1.2 = nI (if h = 6 then 6 else h + 1) ∧
      ∀ k, k < 6 → KK o.2.1 o.2.2.1 o.2.2.2.1 o.2.2.2.2.1 o.2.2.2.2.2.1 o.2.2.2.2.2.2 k = if k = (l + 1) % 6 then C else KK k0 k1 k2 k3 k4 k5 k := by
  have eh : (if Vh.2 + (1 : Int32) < (6 : Int32) then Vh.2 + (1 : Int32) else (6 : Int32)) = nI (if h = 6 then 6 else h + 1) := by
    rw [e2, nI_1]
    by_cases h6 : h = 6
    · subst h6; decide
    · rw [if_neg h6]
      by_cases h5 : h = 5
      · subst h5; decide
      · rw [if_pos (show nI (h + 1) < (6 : Int32) from nI_lt (show h + 1 < 6 by omega) (by decide))]
  unfold f_X0_record
  rw [e1]
  have hc : l = 0 ∨ l = 1 ∨ l = 2 ∨ l = 3 ∨ l = 4 ∨ l = 5 := by omega
  rcases hc with rfl | rfl | rfl | rfl | rfl | rfl
  · rw [if_neg (by decide)]
    obtain ⟨C, hC, -⟩ := copy_ok k1 Vn
    refine ⟨_, C, by unfold b_X0_record_22; rw [if_neg (by decide), if_pos (by decide), hC, eh]; rfl, hC, rfl, rfl, fun k hk => ?_⟩
    unfold KK; by_cases hk1 : k = 1
    · subst hk1; rfl
    · rw [if_neg (show ¬ k = (0 + 1) % 6 from hk1)]; simp [hk1]
  · rw [if_neg (by decide)]
    obtain ⟨C, hC, -⟩ := copy_ok k2 Vn
    refine ⟨_, C, by unfold b_X0_record_22; rw [if_neg (by decide), if_neg (by decide), if_pos (by decide), hC, eh]; rfl, hC, rfl, rfl, fun k hk => ?_⟩
    unfold KK; by_cases hk1 : k = 2
    · subst hk1; rfl
    · rw [if_neg (show ¬ k = (1 + 1) % 6 from hk1)]; simp [hk1]
  · rw [if_neg (by decide)]
    obtain ⟨C, hC, -⟩ := copy_ok k3 Vn
    refine ⟨_, C, by unfold b_X0_record_22; rw [if_neg (by decide), if_neg (by decide), if_neg (by decide), if_pos (by decide), hC, eh]; rfl, hC, rfl, rfl, fun k hk => ?_⟩
    unfold KK; by_cases hk1 : k = 3
    · subst hk1; rfl
    · rw [if_neg (show ¬ k = (2 + 1) % 6 from hk1)]; simp [hk1]
  · rw [if_neg (by decide)]
    obtain ⟨C, hC, -⟩ := copy_ok k4 Vn
    refine ⟨_, C, by unfold b_X0_record_22; rw [if_neg (by decide), if_neg (by decide), if_neg (by decide), if_neg (by decide), if_pos (by decide), hC, eh]; rfl, hC, rfl, rfl, fun k hk => ?_⟩
    unfold KK; by_cases hk1 : k = 4
    · subst hk1; rfl
    · rw [if_neg (show ¬ k = (3 + 1) % 6 from hk1)]; simp [hk1]
  · rw [if_neg (by decide)]
    obtain ⟨C, hC, -⟩ := copy_ok k5 Vn
    refine ⟨_, C, by unfold b_X0_record_22; rw [if_neg (by decide), if_neg (by decide), if_neg (by decide), if_neg (by decide), if_neg (by decide), if_pos (by decide), hC, eh]; rfl, hC, rfl, rfl, fun k hk => ?_⟩
    unfold KK; by_cases hk1 : k = 5
    · subst hk1; rfl
    · have : k < 5 := by omega
      rw [if_neg (show ¬ k = (4 + 1) % 6 from hk1)]
      have hk2 : k = 0 ∨ k = 1 ∨ k = 2 ∨ k = 3 ∨ k = 4 := by omega
      rcases hk2 with rfl | rfl | rfl | rfl | rfl <;> rfl
  · rw [if_pos (by decide)]
    obtain ⟨C, hC, -⟩ := copy_ok k0 Vn
    refine ⟨_, C, by unfold b_X0_record_22; rw [if_pos (by decide), hC, eh]; rfl, hC, rfl, rfl, fun k hk => ?_⟩
    unfold KK; by_cases hk1 : k = 0
    · subst hk1; rfl
    · rw [if_neg (show ¬ k = (5 + 1) % 6 from hk1)]; simp [hk1]
/-- the class's history and the reference's row of past states -/
def HisR (ρ : Nat → Ru) (RS : Nat → Prop) (Vh : Hb) (K : Nat → St) (P : Fn) (c : Int32) : Prop :=
  ∃ l h : Nat, l < 6 ∧ h ≤ 6 ∧ Vh.1 = nI l ∧ Vh.2 = nI h ∧ c = nI h ∧ ∀ j, j < h → RelSt 99999 (ρ (K ((l + 12 - j) % 6)).2.2.2.2.2.2.1) (K ((l + 12 - j) % 6)) (fun x => P ((h - 1 - j) * 173 + x)) ∧ RS (K ((l + 12 - j) % 6)).2.2.2.2.2.2.1
def SavR (ρ : Nat → Ru) (RS : Nat → Prop) (Z : Fn) (W : Nat → St) (B : Fn) (P : Fn) : Prop :=
  ∀ b, b < 2 → (Z b = 0 ∧ B b = 0) ∨ (Z b = 1 ∧ B b = 1 ∧ RelSt 99999 (ρ (W b).2.2.2.2.2.2.1) (W b) (fun x => P (b * 173 + x)) ∧ RS (W b).2.2.2.2.2.2.1)
def PadR (Vp : Pd) (A : Fn) (c : Int32) : Prop := ∃ n : Nat, n ≤ 60 ∧ Vp.2 = nI n ∧ c = nI n ∧ ∀ k, k < n → Vp.1 k = A k
def NowR (ρ : Nat → Ru) (RS : Nat → Prop) (Vn : St) (z : Fn) : Prop := RelSt 99999 (ρ Vn.2.2.2.2.2.2.1) Vn z ∧ RS Vn.2.2.2.2.2.2.1
theorem RelS_iff {ρ : Nat → Ru} {RS : Nat → Prop} {Vp : Pd} {Vd : Rd} {Vn : St} {Vm : St} {Vh : Hb} {Vk0 : St} {Vk1 : St} {Vk2 : St} {Vk3 : St} {Vk4 : St} {Vk5 : St} {Vs0 : St} {Vs1 : St} {Vz : Fn} {M : Md} :
    RelS ρ RS (Vp, Vd, Vn, Vm, Vh, Vk0, Vk1, Vk2, Vk3, Vk4, Vk5, Vs0, Vs1, Vz) M ↔ NowR ρ RS Vn M.1 ∧ HisR ρ RS Vh (KK Vk0 Vk1 Vk2 Vk3 Vk4 Vk5) M.2.1 M.2.2.2.2.1 ∧ SavR ρ RS Vz (fun k => if k = 0 then Vs0 else Vs1) M.2.2.2.1 M.2.2.1 ∧ PadR Vp M.2.2.2.2.2.2.1 M.2.2.2.2.2.2.2.1 := Iff.rfl
def HisJ (ρ : Nat → Ru) (RS : Nat → Prop) (K : Nat → St) (P : Fn) (l h : Nat) : Prop :=
  ∀ j, j < h → RelSt 99999 (ρ (K ((l + 12 - j) % 6)).2.2.2.2.2.2.1) (K ((l + 12 - j) % 6)) (fun x => P ((h - 1 - j) * 173 + x)) ∧ RS (K ((l + 12 - j) % 6)).2.2.2.2.2.2.1
theorem his_drop {ρ : Nat → Ru} {RS : Nat → Prop} {K : Nat → St} {P : Fn} {l : Nat} (H : HisJ ρ RS K P l 6) : HisJ ρ RS K (cpf P P 0 173 865) l 5 := by
  intro j hj
  obtain ⟨h1, h2⟩ := H j (by omega)
  refine ⟨h1.cells fun x hx => ?_, h2⟩
  show cpf P P 0 173 865 ((5 - 1 - j) * 173 + x) = P ((6 - 1 - j) * 173 + x)
  rw [cpf_in (by omega) (by omega)]
  congr 1
  omega
theorem his_push {ρ : Nat → Ru} {RS : Nat → Prop} {K K' : Nat → St} {P z : Fn} {Vn C : St} {l h : Nat} (hl : l < 6) (hh : h < 6) (H : HisJ ρ RS K P l h)
    (hn : NowR ρ RS Vn z) (hC : RelSt 99999 (ρ Vn.2.2.2.2.2.2.1) C z ∧ C.2.2.2.2.2.2 = Vn.2.2.2.2.2.2) (eK : ∀ k, k < 6 → K' k = if k = (l + 1) % 6 then C else K k) :
    HisJ ρ RS K' (cpf P z (h * 173) 0 173) ((l + 1) % 6) (h + 1) := by
  intro j hj
  by_cases j0 : j = 0
  · subst j0
    rw [eK _ (by omega), if_pos (by omega), hC.2]
    refine ⟨hC.1.cells fun x hx => ?_, hn.2⟩
    show cpf P z (h * 173) 0 173 ((h + 1 - 1 - 0) * 173 + x) = z x
    rw [cpf_in (by omega) (by omega)]
    congr 1
    omega
  · rw [eK _ (by omega), if_neg (by omega), show ((l + 1) % 6 + 12 - j) % 6 = (l + 12 - (j - 1)) % 6 from by omega]
    obtain ⟨h1, h2⟩ := H (j - 1) (by omega)
    refine ⟨h1.cells fun x hx => ?_, h2⟩
    show cpf P z (h * 173) 0 173 ((h + 1 - 1 - j) * 173 + x) = P ((h - 1 - (j - 1)) * 173 + x)
    rw [cpf_out (by omega)]
    congr 1
    omega
/-- what both sides keep for undo -/
theorem r_record {ρ : Nat → Ru} {RS : Nat → Prop} {Vp : Pd} {Vd : Rd} {Vn : St} {Vm : St} {Vh : Hb} {Vk0 : St} {Vk1 : St} {Vk2 : St} {Vk3 : St} {Vk4 : St} {Vk5 : St} {Vs0 : St} {Vs1 : St} {Vz : Fn} {M : Md} {N : Nat} (hN : 5000 ≤ N) (H : RelS ρ RS (Vp, Vd, Vn, Vm, Vh, Vk0, Vk1, Vk2, Vk3, Vk4, Vk5, Vs0, Vs1, Vz) M) :
    ∃ (o : Hb × St × St × St × St × St × St) (P : Fn) (c : Int32), f_X0_record Vh Vk0 Vk1 Vk2 Vk3 Vk4 Vk5 Vn = some o ∧ f_X6_record N M = some (M.1, P, M.2.2.1, M.2.2.2.1, c, M.2.2.2.2.2) ∧
      HisR ρ RS o.1 (KK o.2.1 o.2.2.1 o.2.2.2.1 o.2.2.2.2.1 o.2.2.2.2.2.1 o.2.2.2.2.2.2) P c := by
  obtain ⟨hn, ⟨l, h, hl, hh, e1, e2, e3, hj⟩, -, -⟩ := RelS_iff.mp H
  obtain ⟨o, C, f1, f2, g1, g2, g3⟩ := record_c Vh Vk0 Vk1 Vk2 Vk3 Vk4 Vk5 Vn hl hh e1 e2
  have hC := RelSt.copy hn.1 f2
  by_cases h6 : h = 6
  · subst h6
    exact ⟨o, _, _, f1, (q_record hN M (Nat.le_refl 6) e3).trans (by rw [if_pos rfl]), (l + 1) % 6, 6, by omega, by omega, g1, g2, rfl, his_push hl (by omega) (his_drop hj) hn hC g3⟩
  · rw [if_neg h6] at g2
    exact ⟨o, _, _, f1, (q_record hN M hh e3).trans (by rw [if_neg h6]), (l + 1) % 6, h + 1, by omega, by omega, g1, g2, rfl, his_push hl (by omega) hj hn hC g3⟩
