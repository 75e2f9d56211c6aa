set_option maxHeartbeats 8000000 in
set_option maxRecDepth 100000 in
theorem law_loop {E : Ev} {X : Cx} {b L : Nat} {xs : Nat → Int32} (C : Ct E X cL_law RL room_1 11) (hLx : Lx X b) (hsL : E.2.2.2.2.2.2.2.2.1 = L) (hsx : E.2.2.2.2.2.2.2.2.2 = xs) (hL : L ≤ 260) {ex5 ex6 : Nat} (ax ap ad an am ah ak0 ak1 ak2 ak3 ak4 ak5 : Nat → Nat) :
    ∀ (f e : Nat), e + f = 7 → ∀ (gu : va_W) (ρ : Nat → Option Ru) (k n : Nat), k ≤ 1000 + 5 * e → n ≤ 10000 + 246 * e → (∀ r R, ρ r = some R → RIn E gu r R) → ∀ (p : Pd) (d : Rd) (n0 m0 : St) (h : Hb) (k0 k1 k2 k3 k4 k5 : St), InvP ρ p n0 h k0 k1 k2 k3 k4 k5 e → G E X 11 [xo E ax (ap 0) (ad 0) (an 0) (am 0) (ah 0) ex5 ex6, pd E ap p, rd E ad d, sc E an n0, sc E am m0, hb E ah (ak0 0) (ak1 0) (ak2 0) (ak3 0) (ak4 0) (ak5 0) h, sc E ak0 k0, sc E ak1 k1, sc E ak2 k2, sc E ak3 k3, sc E ak4 k4, sc E ak5 k5, gu] k n [(0, .ref E.2.2.2.2.2.2.2.1), (1, .ref (ax 0)), (3, .int 1), (4, .int (nI e))] [] 248 := by
  intro f
  induction f with
  | zero =>
    intro e he gu ρ k n hk hn hgu p d n0 m0 h k0 k1 k2 k3 k4 k5 hI
    exact law_B (N := 5000) C hLx hsL hsx hgu (by omega) (by omega) (fun _ => none) (fun _ _ z => by cases z) (fun _ => none) (fun _ z => by cases z) (p, d, n0, m0, h, k0, k1, k2, k3, k4, k5, 1, nI e) (t248 (Nat.le_refl _) hL (by omega) (fun _ _ _ _ _ _ _ _ _ _ _ z => absurd z (by omega)) (fun _ _ _ _ _ _ _ _ _ _ _ _ _ _ _ z => absurd z (by omega)) hI)
  | succ f ih =>
    intro e he gu ρ k n hk hn hgu p d n0 m0 h k0 k1 k2 k3 k4 k5 hI
    refine law_B (N := 5000) C hLx hsL hsx hgu (by omega) (by omega) (fun x : (Pd × Rd × St × St × Hb × St × St × St × St × St × St × Int32 × Int32 × Int32 × Int32 × Int32) × Ru => kI (e < 7 ∧ LInv x.1.1 x.1.2.2.1 x.1.2.2.2.2.1 x.1.2.2.2.2.2.1 x.1.2.2.2.2.2.2.1 x.1.2.2.2.2.2.2.2.1 x.1.2.2.2.2.2.2.2.2.1 x.1.2.2.2.2.2.2.2.2.2.1 x.1.2.2.2.2.2.2.2.2.2.2.1 e x.1.2.2.2.2.2.2.2.2.2.2.2.2.2.1 x.1.2.2.2.2.2.2.2.2.2.2.2.2.2.2.2 x.2 ∧ x.1.2.2.2.2.2.2.2.2.2.2.2.1 = 1 ∧ x.1.2.2.2.2.2.2.2.2.2.2.2.2.1 = nI e)) ?_ (fun s : Pd × Rd × St × St × Hb × St × St × St × St × St × St × Int32 × Int32 => kI (e < 7 ∧ InvP ρ s.1 s.2.2.1 s.2.2.2.2.1 s.2.2.2.2.2.1 s.2.2.2.2.2.2.1 s.2.2.2.2.2.2.2.1 s.2.2.2.2.2.2.2.2.1 s.2.2.2.2.2.2.2.2.2.1 s.2.2.2.2.2.2.2.2.2.2.1 (e + 1) ∧ s.2.2.2.2.2.2.2.2.2.2.2.1 = 1 ∧ s.2.2.2.2.2.2.2.2.2.2.2.2 = nI (e + 1))) ?_ (p, d, n0, m0, h, k0, k1, k2, k3, k4, k5, 1, nI e) (t248 (Nat.le_refl _) hL (by omega) (fun _ _ _ _ _ _ _ _ _ _ _ z1 z2 => kI_pos ⟨z1, z2, rfl, rfl⟩) (fun _ _ _ _ _ _ _ _ _ _ _ _ _ _ _ z1 z2 => kI_pos ⟨z1, z2, rfl, rfl⟩) hI)
    · intro s R hs ar
      obtain ⟨z1, z2, z3, z4⟩ := kI_inv hs
      refine g_cut (Y2 := [xo E ax (ap 0) (ad 0) (an 0) (am 0) (ah 0) ex5 ex6, pd E ap s.1, rd E ad s.2.1, sc E an (setr s.2.2.1 (ar 0)), sc E am s.2.2.2.1, hb E ah (ak0 0) (ak1 0) (ak2 0) (ak3 0) (ak4 0) (ak5 0) s.2.2.2.2.1, sc E ak0 s.2.2.2.2.2.1, sc E ak1 s.2.2.2.2.2.2.1, sc E ak2 s.2.2.2.2.2.2.2.1, sc E ak3 s.2.2.2.2.2.2.2.2.1, sc E ak4 s.2.2.2.2.2.2.2.2.2.1, sc E ak5 s.2.2.2.2.2.2.2.2.2.2.1, gu ++ ru E (ar 0) ar R]) (List.Perm.of_eq (by simp only [List.flatten_cons, List.flatten_nil, List.append_nil, List.append_assoc])) ?_
      have hgu2 : ∀ r R2, (fun r => if r = ar 0 then some R else ρ r) r = some R2 → RIn E (gu ++ ru E (ar 0) ar R) r R2 := by
        intro r R2 h2
        by_cases c : r = ar 0
        · subst c
          obtain rfl := Option.some.inj ((if_pos rfl).symm.trans h2)
          exact ⟨ar, fun c hc => List.mem_append_right _ hc⟩
        · obtain ⟨b9, hb9⟩ := hgu r R2 ((if_neg c).symm.trans h2)
          exact ⟨b9, fun c hc => List.mem_append_left _ (hb9 c hc)⟩
      rw [z3, z4]
      refine law_C (N := 5000) C hLx hsL hsx hgu2 (k := k + 5) (n := n + 246) (by omega) (by omega) (fun s : Pd × Rd × St × St × Hb × St × St × St × St × St × St × Int32 × Int32 => kI (e < 7 ∧ InvP (fun r => if r = ar 0 then some R else ρ r) s.1 s.2.2.1 s.2.2.2.2.1 s.2.2.2.2.2.1 s.2.2.2.2.2.2.1 s.2.2.2.2.2.2.2.1 s.2.2.2.2.2.2.2.2.1 s.2.2.2.2.2.2.2.2.2.1 s.2.2.2.2.2.2.2.2.2.2.1 (e + 1) ∧ s.2.2.2.2.2.2.2.2.2.2.2.1 = 1 ∧ s.2.2.2.2.2.2.2.2.2.2.2.2 = nI (e + 1))) ?_ (s.1, s.2.1, setr s.2.2.1 (ar 0), s.2.2.2.1, s.2.2.2.2.1, s.2.2.2.2.2.1, s.2.2.2.2.2.2.1, s.2.2.2.2.2.2.2.1, s.2.2.2.2.2.2.2.2.1, s.2.2.2.2.2.2.2.2.2.1, s.2.2.2.2.2.2.2.2.2.2.1, 1, nI e, s.2.2.2.2.2.2.2.2.2.2.2.2.2.1, s.2.2.2.2.2.2.2.2.2.2.2.2.2.2.1, s.2.2.2.2.2.2.2.2.2.2.2.2.2.2.2) (t315 (Nat.le_refl _) z1 (fun _ _ _ _ _ _ _ _ _ _ _ z2 => kI_pos ⟨z1, z2, rfl, rfl⟩) z2 (if_pos rfl))
      intro s hs
      obtain ⟨_, z2, z3, z4⟩ := kI_inv hs
      rw [z3, z4]
      exact ih (e + 1) (by omega) (gu ++ ru E (ar 0) ar R) (fun r => if r = ar 0 then some R else ρ r) (k + 5) (n + 246) (by omega) (by omega) hgu2 s.1 s.2.1 s.2.2.1 s.2.2.2.1 s.2.2.2.2.1 s.2.2.2.2.2.1 s.2.2.2.2.2.2.1 s.2.2.2.2.2.2.2.1 s.2.2.2.2.2.2.2.2.1 s.2.2.2.2.2.2.2.2.2.1 s.2.2.2.2.2.2.2.2.2.2.1 z2
    · intro s hs
      obtain ⟨_, z2, z3, z4⟩ := kI_inv hs
      rw [z3, z4]
      exact ih (e + 1) (by omega) gu ρ k n (by omega) (by omega) hgu s.1 s.2.1 s.2.2.1 s.2.2.2.1 s.2.2.2.2.1 s.2.2.2.2.2.1 s.2.2.2.2.2.2.1 s.2.2.2.2.2.2.2.1 s.2.2.2.2.2.2.2.2.1 s.2.2.2.2.2.2.2.2.2.1 s.2.2.2.2.2.2.2.2.2.2.1 z2
