/-! PURE: how far a soft stop carries -/
def svA : Nat → AS → Nat
  | 0, _ => 0
  | n + 1, A => vA A false + svA n (tickA A false)
theorem sv_add : ∀ (n m : Nat) (A : AS), svA (n + m) A = svA n A + svA m (itA n false A)
  | 0, m, A => by rw [Nat.zero_add]; show _ = 0 + svA m A; omega
  | n + 1, m, A => by
    rw [show n + 1 + m = (n + m) + 1 from by omega]
    show vA A false + svA (n + m) (tickA A false) = vA A false + svA n (tickA A false) + svA m (itA n false (tickA A false))
    rw [sv_add n m]; omega
theorem sv_le {T : Nat} : ∀ (n : Nat) {T : Nat} {A : AS}, WA T A → svA n A ≤ 90 * n
  | 0, _, _, _ => Nat.le_refl _
  | n + 1, T, A, h => by
    have h1 := vA_le (b := false) h
    have h2 := sv_le (T := T) n (WA_tick (b := false) h)
    show vA A false + svA n (tickA A false) ≤ _
    omega
theorem tick_md {A : AS} {b : Bool} (h : A.2.2.2.2.1 ≠ 0) : (tickA A b).2.2.2.2.1 = (if A.2.2.2.2.1 = 1 ∧ vA A b = 0 then 2 else A.2.2.2.2.1) ∧ (tickA A b).2.2.2.2.2.2.1 = vA A b := by
  have e1 : mA A b = A.2.2.2.2.1 := if_neg (fun z => h z.1)
  refine ⟨?_, rfl⟩
  show (if mA A b = 1 ∧ vA A b = 0 then 2 else mA A b) = _
  rw [e1]
theorem tick_md0 {A : AS} {b : Bool} (h : A.2.2.2.2.1 ≠ 0) : (tickA A b).2.2.2.2.1 ≠ 0 := by
  rw [(tick_md h).1]; split <;> omega
theorem it_run {b : Bool} : ∀ (n : Nat) {A : AS}, A.2.2.2.2.1 ≠ 0 → itA n b A = itA n false A
  | 0, _, _ => rfl
  | n + 1, A, h => by
    show itA n b (tickA A b) = itA n false (tickA A false)
    rw [tick_run h]
    exact it_run n (tick_md0 h)
theorem it_un {b : Bool} : ∀ (n : Nat) {A : AS}, A.2.2.2.2.1 ≠ 0 → (itA n b A).2.2.2.2.2.2.2.2.2 = A.2.2.2.2.2.2.2.2.2 + nI (svA n A)
  | 0, A, _ => by
    show A.2.2.2.2.2.2.2.2.2 = A.2.2.2.2.2.2.2.2.2 + nI 0
    rw [show nI 0 = 0 from rfl, Int32.add_zero]
  | n + 1, A, h => by
    have : (itA (n + 1) b A).2.2.2.2.2.2.2.2.2 = (tickA A b).2.2.2.2.2.2.2.2.2 + nI (svA n (tickA A b)) := it_un n (tick_md0 h)
    rw [this, tick_run h]
    show A.2.2.2.2.2.2.2.2.2 + nI (vA A false) + nI (svA n (tickA A false)) = A.2.2.2.2.2.2.2.2.2 + nI (vA A false + svA n (tickA A false))
    rw [Int32.add_assoc, nI_add]
theorem rest {T : Nat} {A : AS} (h : WA T A) (h2 : A.2.2.2.2.1 = 2) : (tickA A false).2.2.2.2.1 = 2 ∧ vA A false = 0 := by
  have hne : A.2.2.2.2.1 ≠ 0 := by omega
  have h0 : vA A false = 0 := (vA_stop h (by rw [show mA A false = A.2.2.2.2.1 from if_neg (fun z => hne z.1)]; exact hne)).2.2 (h.2.2.2.2.2.2.1 h2)
  refine ⟨?_, h0⟩
  rw [(tick_md hne).1, if_neg (by omega)]; exact h2
theorem rest_n : ∀ (n : Nat) {T : Nat} {A : AS}, WA T A → A.2.2.2.2.1 = 2 → (itA n false A).2.2.2.2.1 = 2 ∧ svA n A = 0
  | 0, _, _, _, h2 => ⟨h2, rfl⟩
  | n + 1, T, A, h, h2 => by
    obtain ⟨r1, r2⟩ := rest h h2
    obtain ⟨r3, r4⟩ := rest_n n (WA_tick (b := false) h) r1
    refine ⟨r3, ?_⟩
    show vA A false + svA n (tickA A false) = 0
    omega
theorem stop_in : ∀ (k n : Nat) {T : Nat} {A : AS}, WA T A → A.2.2.2.2.1 ≠ 0 → A.2.2.2.2.2.2.1 ≤ k → k + 1 ≤ n → (itA n false A).2.2.2.2.1 = 2
  | k, 0, _, _, _, _, _, hn => absurd hn (by omega)
  | k, n + 1, T, A, h, h0, hv, hn => by
    have hle := h.2.2.2.2.1
    obtain ⟨t1, t2⟩ := tick_md (b := false) h0
    obtain ⟨s1, s2, s3⟩ := vA_stop (b := false) h (by rw [show mA A false = A.2.2.2.2.1 from if_neg (fun z => h0 z.1)]; exact h0)
    show (itA n false (tickA A false)).2.2.2.2.1 = 2
    by_cases c : vA A false = 0
    · have : (tickA A false).2.2.2.2.1 = 2 := by rw [t1]; split <;> omega
      exact (rest_n n (WA_tick (b := false) h) this).1
    · obtain ⟨j, rfl⟩ : ∃ j, k = j + 1 := ⟨k - 1, by omega⟩
      exact stop_in j n (WA_tick (b := false) h) (tick_md0 h0) (by rw [t2]; omega) (by omega)
/-! copies -/
theorem Rel_copy {D V C : St} {A : AS} (h : Rel V A) (hl : A.2.2.1.length ≤ 20) (e : f_X4_copy D V = some C) : Rel C A ∧ C.2.2.2.2.2.2.1 = V.2.2.2.2.2.2.1 ∧ C.2.2.2.2.2.2.2.2.2.2.2.2.2.2.1 = V.2.2.2.2.2.2.2.2.2.2.2.2.2.2.1 := by
  obtain ⟨C', e1, d0, d1, d2, d3, d4, d5, d6⟩ := copy_ok D V
  obtain rfl : C' = C := Option.some.inj (e1.symm.trans e)
  obtain ⟨r1, r2, r3, r4, r5, r6, r7, r8, r9, r10, r11, r12⟩ := h
  refine ⟨⟨fun j hj => (d1 j hj).trans (r1 j hj), fun j hj => (d5 j hj).trans (r2 j hj), by rw [d0]; exact r3, fun i p hp => ?_, by rw [d0]; exact r5, by rw [d0]; exact r6, by rw [d0]; exact r7, by rw [d0]; exact r8, by rw [d0]; exact r9, by rw [d0]; exact r10, by rw [d0]; exact r11, by rw [d0]; exact r12⟩, by rw [d0], by rw [d0]⟩
  have hi : i < A.2.2.1.length := by
    rcases Nat.lt_or_ge i A.2.2.1.length with q | q
    · exact q
    · rw [List.getElem?_eq_none q] at hp; cases hp
  obtain ⟨q1, q2, q3⟩ := r4 i p hp
  exact ⟨(d2 i (by omega)).trans q1, (d3 i (by omega)).trans q2, (d4 i (by omega)).trans q3⟩
def updN (f : Nat → Nat) (k v : Nat) : Nat → Nat := fun j => if j = k then v else f j
theorem Rel_set {V : St} {A : AS} {j x : Nat} (h : Rel V A) : Rel (upd V.1 j (nI x), V.2.1, V.2.2.1, V.2.2.2.1, V.2.2.2.2.1, V.2.2.2.2.2.1, V.2.2.2.2.2.2.1, V.2.2.2.2.2.2.2.1, V.2.2.2.2.2.2.2.2.1, V.2.2.2.2.2.2.2.2.2.1, V.2.2.2.2.2.2.2.2.2.2.1, V.2.2.2.2.2.2.2.2.2.2.2.1, V.2.2.2.2.2.2.2.2.2.2.2.2.1, V.2.2.2.2.2.2.2.2.2.2.2.2.2.1, V.2.2.2.2.2.2.2.2.2.2.2.2.2.2.1, V.2.2.2.2.2.2.2.2.2.2.2.2.2.2.2.1, V.2.2.2.2.2.2.2.2.2.2.2.2.2.2.2.2.1, V.2.2.2.2.2.2.2.2.2.2.2.2.2.2.2.2.2) (updN A.1 j x, A.2.1, A.2.2.1, A.2.2.2.1, A.2.2.2.2.1, A.2.2.2.2.2.1, A.2.2.2.2.2.2.1, A.2.2.2.2.2.2.2.1, A.2.2.2.2.2.2.2.2.1, A.2.2.2.2.2.2.2.2.2) := by
  obtain ⟨r1, r2⟩ := h
  refine ⟨fun i hi => ?_, r2⟩
  show upd V.1 j (nI x) i = nI (updN A.1 j x i)
  unfold updN
  by_cases c : i = j
  · rw [upd_e c, if_pos c]
  · rw [upd_n c, if_neg c]; exact r1 i hi
def stopB (A : AS) : AS := if A.2.2.2.2.1 = 0 then stopA A else A
theorem stopB_md (A : AS) : (stopB A).2.2.2.2.1 ≠ 0 := by
  unfold stopB
  by_cases c : A.2.2.2.2.1 = 0
  · rw [if_pos c]; show (1 : Nat) ≠ 0; decide
  · rw [if_neg c]; exact c
theorem WA_stopB {T : Nat} {A : AS} (h : WA T A) : WA T (stopB A) := by
  unfold stopB
  split
  · exact WA_stop h
  · exact h
theorem stopB_un (A : AS) : (stopB A).2.2.2.2.2.2.2.2.2 = A.2.2.2.2.2.2.2.2.2 ∧ (stopB A).2.2.2.2.2.2.1 = A.2.2.2.2.2.2.1 := by
  unfold stopB
  split
  · exact ⟨rfl, rfl⟩
  · exact ⟨rfl, rfl⟩
def wayR (A : AS) (c : Nat) : Nat := svA 91 (stopB (updN A.1 2 c, A.2.1, A.2.2.1, A.2.2.2.1, A.2.2.2.2.1, A.2.2.2.2.2.1, A.2.2.2.2.2.2.1, A.2.2.2.2.2.2.2.1, A.2.2.2.2.2.2.2.2.1, A.2.2.2.2.2.2.2.2.2))
theorem units_ok {N T : Nat} {V : St} {A : AS} (hN : 5000 ≤ N) (h : Rel V A) (hA : WA T A) (hT : T < 2 ^ 28) : ∃ V', f_X4_unitsUntilStopped N V = some (nI (svA 91 (stopB A)), V') := by
  have core : ∀ (V0 V1 : St) (B : AS), Rel V1 B → WA T B → B.2.2.2.2.1 ≠ 0 → V1.2.2.2.2.2.2.2.2.2.2.2.2.2.2.2.2.1 = B.2.2.2.2.2.2.2.2.2 → ∃ V', lp (b_X4_unitsUntilStopped_19 N V0) N (V1, V1.2.2.2.2.2.2.2.2.2.2.2.2.2.2.2.2.1, 0) = some (nI (svA 91 B), V') := by
    intro V0 V1 B h1 hB hm hu
    have hv := hB.2.2.2.2.2.1
    obtain ⟨o, e1, e2⟩ := lp_m (body := b_X4_unitsUntilStopped_19 N V0) (P := fun k s => ∃ (i : Nat) (W : St), k + i = 92 ∧ s = (W, V1.2.2.2.2.2.2.2.2.2.2.2.2.2.2.2.2.1, nI i) ∧ Rel W (itA i false B) ∧ ∀ j, j < i → (itA j false B).2.2.2.2.1 = 1) (Q := fun o => o.1 = nI (svA 91 B)) (by
      rintro k s ⟨i, W, hk, rfl, hW, hj⟩
      have hne := hB.2.2.2.2.1
      have hi : i ≤ 91 := by
        rcases Nat.lt_or_ge 91 i with q | q
        · have := hj 91 q
          rw [stop_in 90 91 hB hm hv (by omega)] at this
          exact absurd this (by decide)
        · exact q
      have hWA := WA_it (b := false) i hB
      have hmd : W.2.2.2.2.2.2.2.2.2.1 = nI (itA i false B).2.2.2.2.1 := hW.2.2.2.2.2.1
      have hle := hWA.2.2.2.2.1
      have e0 : b_X4_unitsUntilStopped_19 N V0 = fun K s => (if (3000 : Int32) ≤ s.2.2 then b_X4_unitsUntilStopped_45 N V0 (s.1, s.2.1) else (if s.1.2.2.2.2.2.2.2.2.2.1 = (1 : Int32) then ((f_X4_passTick N s.1 (0 : Int32)).bind fun o3 => K (o3, s.2.1, (s.2.2 + (1 : Int32)))) else b_X4_unitsUntilStopped_45 N V0 (s.1, s.2.1))) := rfl
      by_cases c : (itA i false B).2.2.2.2.1 = 1
      · obtain ⟨W2, t1, t2, t3, t4⟩ := tick_ok (b := false) (hv := 0) hN hW hWA (by omega) rfl
        refine .inr ⟨k - 1, (W2, V1.2.2.2.2.2.2.2.2.2.2.2.2.2.2.2.2.1, nI (i + 1)), by omega, ⟨i + 1, W2, by omega, rfl, by rw [itA_s]; exact t2, fun j hj' => ?_⟩, fun K => ?_⟩
        · by_cases q : j = i
          · rw [q]; exact c
          · exact hj j (by omega)
        · rw [e0]
          dsimp only
          rw [if_neg (show ¬ (3000 : Int32) ≤ nI i from nI_ge (b := 3000) (by omega) (by decide)), if_pos (show W.2.2.2.2.2.2.2.2.2.1 = (1 : Int32) by rw [hmd, c]; rfl), t1, Option.bind_some, nI_1]
      · have hmz : (itA i false B).2.2.2.2.1 ≠ 0 := by
          clear c hmd hle hWA hW hj hk e0
          induction i with
          | zero => exact hm
          | succ i ih => rw [itA_s]; exact tick_md0 (ih (by omega))
        have h2 : (itA i false B).2.2.2.2.1 = 2 := by omega
        refine .inl ⟨(W.2.2.2.2.2.2.2.2.2.2.2.2.2.2.2.2.1 - V1.2.2.2.2.2.2.2.2.2.2.2.2.2.2.2.2.1, W), fun K => ?_, ?_⟩
        · rw [e0]
          dsimp only
          rw [if_neg (show ¬ (3000 : Int32) ≤ nI i from nI_ge (b := 3000) (by omega) (by decide)), if_neg (show ¬ W.2.2.2.2.2.2.2.2.2.1 = (1 : Int32) by rw [hmd]; exact fun z => c ((nI_eq (b := 1) (by omega) (by decide)).mp z))]
          rfl
        · have hun : W.2.2.2.2.2.2.2.2.2.2.2.2.2.2.2.2.1 = (itA i false B).2.2.2.2.2.2.2.2.2 := hW.2.2.2.2.2.2.2.2.2.2.1
          have e3 : svA 91 B = svA i B := by
            have := sv_add i (91 - i) B
            rw [show i + (91 - i) = 91 from by omega, (rest_n (91 - i) hWA h2).2] at this
            omega
          show W.2.2.2.2.2.2.2.2.2.2.2.2.2.2.2.2.1 - V1.2.2.2.2.2.2.2.2.2.2.2.2.2.2.2.2.1 = _
          rw [hun, it_un i hm, hu, e3, Int32.add_comm, Int32.add_sub_cancel]) N 92 (V1, V1.2.2.2.2.2.2.2.2.2.2.2.2.2.2.2.2.1, 0) (by omega) ⟨0, V1, rfl, rfl, h1, fun j hj => absurd hj (Nat.not_lt_zero _)⟩
    exact ⟨o.2, by rw [← e2]; exact e1⟩
  have r6 := h.2.2.2.2.2.1
  have hun : V.2.2.2.2.2.2.2.2.2.2.2.2.2.2.2.2.1 = A.2.2.2.2.2.2.2.2.2 := h.2.2.2.2.2.2.2.2.2.2.1
  have hle := hA.2.2.2.2.1
  unfold f_X4_unitsUntilStopped b_X4_unitsUntilStopped_17 stopB
  by_cases c : A.2.2.2.2.1 = 0
  · rw [if_pos (show V.2.2.2.2.2.2.2.2.2.1 = 0 by rw [r6, c]; rfl), if_pos c]
    obtain ⟨r1, r2, r3, r4, r5, _, r7⟩ := h
    exact core V (V.1, V.2.1, V.2.2.1, V.2.2.2.1, V.2.2.2.2.1, V.2.2.2.2.2.1, V.2.2.2.2.2.2.1, V.2.2.2.2.2.2.2.1, V.2.2.2.2.2.2.2.2.1, (1 : Int32), V.2.2.2.2.2.2.2.2.2.2.1, V.2.2.2.2.2.2.2.2.2.2.2.1, V.2.2.2.2.2.2.2.2.2.2.2.2.1, V.2.2.2.2.2.2.2.2.2.2.2.2.2.1, V.2.2.2.2.2.2.2.2.2.2.2.2.2.2.1, V.2.2.2.2.2.2.2.2.2.2.2.2.2.2.2.1, V.2.2.2.2.2.2.2.2.2.2.2.2.2.2.2.2.1, V.2.2.2.2.2.2.2.2.2.2.2.2.2.2.2.2.2) (stopA A) ⟨r1, r2, r3, r4, r5, rfl, r7⟩ (WA_stop hA) (by show (1 : Nat) ≠ 0; decide) hun
  · rw [if_neg (show ¬ V.2.2.2.2.2.2.2.2.2.1 = 0 by rw [r6]; exact nI_ne0 (by omega) (by omega)), if_neg c]
    exact core V V A h hA c hun
theorem WA_ramp {T : Nat} {A : AS} {c : Nat} (h : WA T A) (hc : 1 ≤ c ∧ c ≤ 30) : WA T (updN A.1 2 c, A.2.1, A.2.2.1, A.2.2.2.1, A.2.2.2.2.1, A.2.2.2.2.2.1, A.2.2.2.2.2.2.1, A.2.2.2.2.2.2.2.1, A.2.2.2.2.2.2.2.2.1, A.2.2.2.2.2.2.2.2.2) := by
  obtain ⟨a1, a2⟩ := h
  exact ⟨⟨a1.1, a1.2.1, hc.1, hc.2, a1.2.2.2.2⟩, a2⟩
theorem wayWith_ok {N T c : Nat} {Vn Vm : St} {A : AS} (hN : 5000 ≤ N) (h : Rel Vn A) (hA : WA T A) (hT : T < 2 ^ 28) (hc : 1 ≤ c ∧ c ≤ 30) : ∃ V', f_X5_wayWith N Vn Vm (nI c) = some (nI (wayR A c), V') := by
  obtain ⟨C, e1, -⟩ := copy_ok Vm Vn
  obtain ⟨hC, -, -⟩ := Rel_copy h hA.2.1 e1
  obtain ⟨V', e2⟩ := units_ok hN (Rel_set (j := 2) (x := c) hC) (WA_ramp hA hc) hT
  refine ⟨V', ?_⟩
  unfold f_X5_wayWith
  rw [e1, Option.bind_some, c_2, e2, Option.bind_some]
  rfl
theorem updN_self (f : Nat → Nat) (k : Nat) : updN f k (f k) = f := by
  funext j
  unfold updN
  by_cases c : j = k
  · rw [if_pos c, c]
  · rw [if_neg c]
theorem way_ok {N T : Nat} {Vn Vm : St} {A : AS} (hN : 5000 ≤ N) (h : Rel Vn A) (hA : WA T A) (hT : T < 2 ^ 28) : ∃ V', f_X5_way N Vn Vm = some (nI (wayR A (A.1 2)), V') := by
  obtain ⟨V', e⟩ := wayWith_ok (Vm := Vm) hN h hA hT ⟨hA.1.2.2.1, hA.1.2.2.2.1⟩
  refine ⟨V', ?_⟩
  unfold f_X5_way
  rw [c_2, h.1 2 (by omega), e, Option.bind_some]
theorem wayR_le {T c : Nat} {A : AS} (hA : WA T A) (hc : 1 ≤ c ∧ c ≤ 30) : wayR A c ≤ 8190 := sv_le (T := 0) 91 (WA_stopB (WA_ramp hA hc))
theorem leastRamp_ok {N T u : Nat} {Vn Vm : St} {A : AS} (hN : 5000 ≤ N) (h : Rel Vn A) (hA : WA T A) (hT : T < 2 ^ 28) (hu : u ≤ 9999) (hex : wayR A (A.1 2) ≤ u) :
    ∃ (c : Nat) (V' : St), f_X5_leastRamp N Vn Vm (nI u) = some (nI c, V') ∧ 1 ≤ c ∧ c ≤ A.1 2 ∧ wayR A c ≤ u ∧ ∀ c', 1 ≤ c' → c' < c → u < wayR A c' := by
  have hs1 := hA.1.2.2.1
  have hs2 := hA.1.2.2.2.1
  obtain ⟨o, e1, c, V', e2, q1, q2, q3, q4⟩ := lp_m (body := b_X5_leastRamp_20 N Vn Vm (nI u)) (P := fun k s => ∃ (r : Nat) (W : St), k + r = 31 ∧ 1 ≤ r ∧ r ≤ A.1 2 ∧ s = (W, nI r) ∧ ∀ c', 1 ≤ c' → c' < r → u < wayR A c') (Q := fun o => ∃ (c : Nat) (V' : St), o = (nI c, V') ∧ 1 ≤ c ∧ c ≤ A.1 2 ∧ wayR A c ≤ u ∧ ∀ c', 1 ≤ c' → c' < c → u < wayR A c') (by
    rintro k s ⟨r, W, hk, h1, h2, rfl, hc⟩
    obtain ⟨W2, ew⟩ := wayWith_ok (Vm := W) hN h hA hT ⟨h1, Nat.le_trans h2 hs2⟩
    have hwl := wayR_le hA ⟨h1, Nat.le_trans h2 hs2⟩
    have e0 : ∀ K, b_X5_leastRamp_20 N Vn Vm (nI u) K (W, nI r) = (if nI u < nI (wayR A r) then K (W2, nI r + 1) else some (nI r, W2)) := by
      intro K
      unfold b_X5_leastRamp_20
      dsimp only
      rw [c_2, if_neg (show ¬ lstG.getD 2 0 < nI r from nI_nlt (a := 30) (by omega) (by omega)), ew, Option.bind_some]
    by_cases g : u < wayR A r
    · have hr : r ≠ A.1 2 := fun z => by rw [z] at g; omega
      refine .inr ⟨k - 1, (W2, nI (r + 1)), by omega, ⟨r + 1, W2, by omega, by omega, by omega, rfl, fun c' h3 h4 => ?_⟩, fun K => ?_⟩
      · by_cases q : c' = r
        · rw [q]; exact g
        · exact hc c' h3 (by omega)
      · rw [e0, if_pos (nI_lt g (by omega)), nI_1]
    · refine .inl ⟨(nI r, W2), fun K => ?_, r, W2, rfl, h1, h2, by omega, hc⟩
      rw [e0, if_neg (nI_nlt (by omega) (by omega))]) N 30 (Vm, (1 : Int32)) (by omega) ⟨1, Vm, rfl, Nat.le_refl _, hs1, rfl, fun c' h3 h4 => absurd h4 (by omega)⟩
  refine ⟨c, V', ?_, q1, q2, q3, q4⟩
  rw [← e2, ← e1]
  unfold f_X5_leastRamp
  rw [if_neg (nI_pos (by omega)), if_pos (show nI u ≤ (9999 : Int32) from nI_le (b := 9999) hu (by decide))]
  rfl
